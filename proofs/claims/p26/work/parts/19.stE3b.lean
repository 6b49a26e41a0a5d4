def fX3_copyFrom (v : SV) (v2 : SV) : SV := let w_10 : Int32 := v2 8 0; mkS (v 0) (v 1) (v 2) (fX5_copyRow 12 (v2 3) 12 (v 3)) (fX5_copyRow 12 (v2 4) 12 (v 4)) (fX5_copyRow 12 (v2 5) 12 (v 5)) (v 6) (v 7) w_10 (v 8 1) (v 8 2) (v 8 3) (v 8 4) (v 8 5) (v 8 6) (v 8 7) (v 8 8) (v 8 9) (v 8 10)
def fX4_copyFrom (v : SV) (v2 : SV) : SV := let w_7 : Int32 := v2 8 1; let w_9 : Int32 := v2 8 2; let w_11 : Int32 := v2 8 3; let w_13 : Int32 := v2 8 4; let w_15 : Int32 := v2 8 5; let w_17 : Int32 := v2 8 6; let w_19 : Int32 := v2 8 7; mkS (v 0) (v 1) (v 2) (v 3) (v 4) (v 5) (fX5_copyRow 24 (v2 6) 24 (v 6)) (fX5_copyRow 24 (v2 7) 24 (v 7)) (v 8 0) w_7 w_9 w_11 w_13 w_15 w_17 w_19 (v 8 8) (v 8 9) (v 8 10)
def fX2_copyFrom (v : SV) (v2 : SV) : SV := let r_8 := fX3_copyFrom (mkS (fX5_copyRow 24 (v2 0) 24 (v 0)) (v 1) (fX5_copyRow 7 (v2 2) 7 (v 2)) (v 3) (v 4) (v 5) (v 6) (v 7) (v 8 0) (v 8 1) (v 8 2) (v 8 3) (v 8 4) (v 8 5) (v 8 6) (v 8 7) (v 8 8) (v 8 9) (v 8 10)) v2
  let r_10 := fX4_copyFrom r_8 v2
  let w_11 : Int32 := v2 8 8; let w_13 : Int32 := v2 8 9; let w_15 : Int32 := v2 8 10; mkS (r_10 0) (r_10 1) (r_10 2) (r_10 3) (r_10 4) (r_10 5) (r_10 6) (r_10 7) (r_10 8 0) (r_10 8 1) (r_10 8 2) (r_10 8 3) (r_10 8 4) (r_10 8 5) (r_10 8 6) (r_10 8 7) w_11 w_13 w_15
def fX3_addLine (v : SV) (x1 : Int32) (x2 : Int32) (x3 : Int32) : SV := let w_10 : Int32 := (if ((v 8 0) + 1) < 12 then ((v 8 0) + 1) else 12); mkS (v 0) (v 1) (v 2) (fX3_pushFront (v 3) x1) (fX3_pushFront (v 4) x2) (fX3_pushFront (v 5) x3) (v 6) (v 7) w_10 (v 8 1) (v 8 2) (v 8 3) (v 8 4) (v 8 5) (v 8 6) (v 8 7) (v 8 8) (v 8 9) (v 8 10)
theorem dX3_copyFrom_0 : decode cX3_copyFrom 0 = .ok (.aload_n 1, 1) := by decide +kernel
theorem dX3_copyFrom_1 : decode cX3_copyFrom 1 = .ok (.getfield 11, 3) := by decide +kernel
theorem dX3_copyFrom_4 : decode cX3_copyFrom 4 = .ok (.aload_n 0, 1) := by decide +kernel
theorem dX3_copyFrom_5 : decode cX3_copyFrom 5 = .ok (.getfield 11, 3) := by decide +kernel
theorem dX3_copyFrom_8 : decode cX3_copyFrom 8 = .ok (.invokestatic 25, 3) := by decide +kernel
theorem dX3_copyFrom_11 : decode cX3_copyFrom 11 = .ok (.aload_n 1, 1) := by decide +kernel
theorem dX3_copyFrom_12 : decode cX3_copyFrom 12 = .ok (.getfield 15, 3) := by decide +kernel
theorem dX3_copyFrom_15 : decode cX3_copyFrom 15 = .ok (.aload_n 0, 1) := by decide +kernel
theorem dX3_copyFrom_16 : decode cX3_copyFrom 16 = .ok (.getfield 15, 3) := by decide +kernel
theorem dX3_copyFrom_19 : decode cX3_copyFrom 19 = .ok (.invokestatic 25, 3) := by decide +kernel
theorem dX3_copyFrom_22 : decode cX3_copyFrom 22 = .ok (.aload_n 1, 1) := by decide +kernel
theorem dX3_copyFrom_23 : decode cX3_copyFrom 23 = .ok (.getfield 18, 3) := by decide +kernel
theorem dX3_copyFrom_26 : decode cX3_copyFrom 26 = .ok (.aload_n 0, 1) := by decide +kernel
theorem dX3_copyFrom_27 : decode cX3_copyFrom 27 = .ok (.getfield 18, 3) := by decide +kernel
theorem dX3_copyFrom_30 : decode cX3_copyFrom 30 = .ok (.invokestatic 25, 3) := by decide +kernel
theorem dX3_copyFrom_33 : decode cX3_copyFrom 33 = .ok (.aload_n 0, 1) := by decide +kernel
theorem dX3_copyFrom_34 : decode cX3_copyFrom 34 = .ok (.aload_n 1, 1) := by decide +kernel
theorem dX3_copyFrom_35 : decode cX3_copyFrom 35 = .ok (.getfield 21, 3) := by decide +kernel
theorem dX3_copyFrom_38 : decode cX3_copyFrom 38 = .ok (.putfield 21, 3) := by decide +kernel
theorem dX3_copyFrom_41 : decode cX3_copyFrom 41 = .ok (.return_, 1) := by decide +kernel
set_option maxHeartbeats 1000000 in
set_option maxRecDepth 100000 in
theorem c_X3_copyFrom (l : Launch) (G : GT) (q : Nat → Nat) (v : SV) (q2 : Nat → Nat) (v2 : SV) (hq : stD G q) (hd : stN q q2) : Met l yX3_copyFrom (Cond.code yX3_copyFrom cX3_copyFrom 2 none :: bigW) ({ frames := 2, cells := 0, slots := 0, locals := 51 }) (BP G [.ref (q 4), .ref (q2 4)] (fun U H => PW G (stW G q v) H ∧ PW G (stW G q2 v2) H)) (QE (none) (fun H => PW G (stW G q (fX3_copyFrom v v2)) H) (stA q)) 0 0 (stA q) := by
  refine met_of (by decide) (Nat.le_of_ble_eq_true rfl) ?_
  intro p e s m below meth c ls hC hKN hB0 hl
  obtain ⟨hP, hP2⟩ := hB0
  have hl : lv_has ls 2 [(0, .ref (q 4)), (1, .ref (q2 4))] := hl
  have hS : va_S (stA q) s.heap s.heap [] := va_S.rf
  have hAL : ∀ a, (stA q) a → gL G ≤ a := stD_low hq
  have hg : fX3_copyFrom v v2 = fX3_copyFrom v v2 := rfl
  refine lv_aload_n hC.1 hC.2.1 dX3_copyFrom_0 rfl (lv_at hl 1 rfl) ?_
  refine gf (v := .ref (q2 5)) hC fwX3 hKN hP2 4 rfl rfl 0 (by decide) rfl wd_46 rfl dX3_copyFrom_1 ?_
  refine lv_aload_n hC.1 hC.2.1 dX3_copyFrom_4 rfl (lv_at hl 0 rfl) ?_
  refine gf (v := .ref (q 5)) hC fwX3 hKN hP 4 rfl rfl 0 (by decide) rfl wd_46 rfl dX3_copyFrom_5 ?_
  refine runE (rSN (B := fun U H => RD (q2 5) 12 (v2 3) U H ∧ PW G (a1W G (q 5) 12 (v 3)) H) (As := [.ref (q2 5), .ref (q 5)]) (rest := []) hC mwX5_copyRow (c_X5_copyRow l G (q2 5) 12 (v2 3) (q 5) 12 (v 3) (stD_low hq _ ⟨5, by decide, rfl⟩) ⟨rfl, by decide⟩) wd_32 (nm_5 hKN) ⟨rfl, rfl⟩ ⟨Nat.le_of_ble_eq_true rfl, Nat.le_of_ble_eq_true rfl⟩ (stb_and (stb_RD _ _ _) (stb_h (fun H => PW G (a1W G (q 5) 12 (v 3)) H))) hKN ⟨(RD.ofP hKN hP2 5 rfl), (one_of hP 5 rfl)⟩ rfl hl.1 rfl (Nat.le_of_ble_eq_true rfl) dX3_copyFrom_8 ⟨Nat.zero_le _, Nat.zero_le _⟩) hS (fun _ h => ⟨5, by decide, h⟩) (fun _ h => ⟨5, by decide, h⟩) (fun H locs hq_1 _ hk_3 hS => ?_)
  have hP : PW G (stW G q (mkS (v 0) (v 1) (v 2) (fX5_copyRow 12 (v2 3) 12 (v 3)) (v 4) (v 5) (v 6) (v 7) (v 8 0) (v 8 1) (v 8 2) (v 8 3) (v 8 4) (v 8 5) (v 8 6) (v 8 7) (v 8 8) (v 8 9) (v 8 10))) H := one_set hP (stD_D hq v) 5 rfl hq_1 hk_3
  refine lv_aload_n hC.1 hC.2.1 dX3_copyFrom_11 rfl (lv_at hl 1 rfl) ?_
  refine gf (v := .ref (q2 6)) hC fwX3 (hKN.go hAL hS) (keepS hP2 hS (stN_na hd v2)) 4 rfl rfl 1 (by decide) rfl wd_47 rfl dX3_copyFrom_12 ?_
  refine lv_aload_n hC.1 hC.2.1 dX3_copyFrom_15 rfl (lv_at hl 0 rfl) ?_
  refine gf (v := .ref (q 6)) hC fwX3 (hKN.go hAL hS) hP 4 rfl rfl 1 (by decide) rfl wd_47 rfl dX3_copyFrom_16 ?_
  refine runE (rSN (B := fun U H => RD (q2 6) 12 (v2 4) U H ∧ PW G (a1W G (q 6) 12 (v 4)) H) (As := [.ref (q2 6), .ref (q 6)]) (rest := []) hC mwX5_copyRow (c_X5_copyRow l G (q2 6) 12 (v2 4) (q 6) 12 (v 4) (stD_low hq _ ⟨6, by decide, rfl⟩) ⟨rfl, by decide⟩) wd_32 (nm_5 (hKN.go hAL hS)) ⟨rfl, rfl⟩ ⟨Nat.le_of_ble_eq_true rfl, Nat.le_of_ble_eq_true rfl⟩ (stb_and (stb_RD _ _ _) (stb_h (fun H => PW G (a1W G (q 6) 12 (v 4)) H))) (hKN.go hAL hS) ⟨(RD.ofP (hKN.go hAL hS) (keepS hP2 hS (stN_na hd v2)) 6 rfl), (one_of hP 6 rfl)⟩ rfl hl.1 rfl (Nat.le_of_ble_eq_true rfl) dX3_copyFrom_19 ⟨Nat.zero_le _, Nat.zero_le _⟩) hS (fun _ h => ⟨6, by decide, h⟩) (fun _ h => ⟨6, by decide, h⟩) (fun H locs hq_4 _ hk_6 hS => ?_)
  have hP : PW G (stW G q (mkS (v 0) (v 1) (v 2) (fX5_copyRow 12 (v2 3) 12 (v 3)) (fX5_copyRow 12 (v2 4) 12 (v 4)) (v 5) (v 6) (v 7) (v 8 0) (v 8 1) (v 8 2) (v 8 3) (v 8 4) (v 8 5) (v 8 6) (v 8 7) (v 8 8) (v 8 9) (v 8 10))) H := one_set hP (stD_D hq (mkS (v 0) (v 1) (v 2) (fX5_copyRow 12 (v2 3) 12 (v 3)) (v 4) (v 5) (v 6) (v 7) (v 8 0) (v 8 1) (v 8 2) (v 8 3) (v 8 4) (v 8 5) (v 8 6) (v 8 7) (v 8 8) (v 8 9) (v 8 10))) 6 rfl hq_4 hk_6
  refine lv_aload_n hC.1 hC.2.1 dX3_copyFrom_22 rfl (lv_at hl 1 rfl) ?_
  refine gf (v := .ref (q2 7)) hC fwX3 (hKN.go hAL hS) (keepS hP2 hS (stN_na hd v2)) 4 rfl rfl 2 (by decide) rfl wd_48 rfl dX3_copyFrom_23 ?_
  refine lv_aload_n hC.1 hC.2.1 dX3_copyFrom_26 rfl (lv_at hl 0 rfl) ?_
  refine gf (v := .ref (q 7)) hC fwX3 (hKN.go hAL hS) hP 4 rfl rfl 2 (by decide) rfl wd_48 rfl dX3_copyFrom_27 ?_
  refine runE (rSN (B := fun U H => RD (q2 7) 12 (v2 5) U H ∧ PW G (a1W G (q 7) 12 (v 5)) H) (As := [.ref (q2 7), .ref (q 7)]) (rest := []) hC mwX5_copyRow (c_X5_copyRow l G (q2 7) 12 (v2 5) (q 7) 12 (v 5) (stD_low hq _ ⟨7, by decide, rfl⟩) ⟨rfl, by decide⟩) wd_32 (nm_5 (hKN.go hAL hS)) ⟨rfl, rfl⟩ ⟨Nat.le_of_ble_eq_true rfl, Nat.le_of_ble_eq_true rfl⟩ (stb_and (stb_RD _ _ _) (stb_h (fun H => PW G (a1W G (q 7) 12 (v 5)) H))) (hKN.go hAL hS) ⟨(RD.ofP (hKN.go hAL hS) (keepS hP2 hS (stN_na hd v2)) 7 rfl), (one_of hP 7 rfl)⟩ rfl hl.1 rfl (Nat.le_of_ble_eq_true rfl) dX3_copyFrom_30 ⟨Nat.zero_le _, Nat.zero_le _⟩) hS (fun _ h => ⟨7, by decide, h⟩) (fun _ h => ⟨7, by decide, h⟩) (fun H locs hq_7 _ hk_9 hS => ?_)
  have hP : PW G (stW G q (mkS (v 0) (v 1) (v 2) (fX5_copyRow 12 (v2 3) 12 (v 3)) (fX5_copyRow 12 (v2 4) 12 (v 4)) (fX5_copyRow 12 (v2 5) 12 (v 5)) (v 6) (v 7) (v 8 0) (v 8 1) (v 8 2) (v 8 3) (v 8 4) (v 8 5) (v 8 6) (v 8 7) (v 8 8) (v 8 9) (v 8 10))) H := one_set hP (stD_D hq (mkS (v 0) (v 1) (v 2) (fX5_copyRow 12 (v2 3) 12 (v 3)) (fX5_copyRow 12 (v2 4) 12 (v 4)) (v 5) (v 6) (v 7) (v 8 0) (v 8 1) (v 8 2) (v 8 3) (v 8 4) (v 8 5) (v 8 6) (v 8 7) (v 8 8) (v 8 9) (v 8 10))) 7 rfl hq_7 hk_9
  refine lv_aload_n hC.1 hC.2.1 dX3_copyFrom_33 rfl (lv_at hl 0 rfl) ?_
  refine lv_aload_n hC.1 hC.2.1 dX3_copyFrom_34 rfl (lv_at hl 1 rfl) ?_
  refine gf (v := .int (v2 8 0)) hC fwX3 (hKN.go hAL hS) (keepS hP2 hS (stN_na hd v2)) 4 rfl rfl 3 (by decide) rfl wd_49 rfl dX3_copyFrom_35 ?_
  refine lv_topi (fun w_10 ew_10 => ?_)
  refine pf (v := .int w_10) (tv := .int) hC fwX3 (hKN.go hAL hS) hP (stD_D hq (mkS (v 0) (v 1) (v 2) (fX5_copyRow 12 (v2 3) 12 (v 3)) (fX5_copyRow 12 (v2 4) 12 (v 4)) (fX5_copyRow 12 (v2 5) 12 (v 5)) (v 6) (v 7) (v 8 0) (v 8 1) (v 8 2) (v 8 3) (v 8 4) (v 8 5) (v 8 6) (v 8 7) (v 8 8) (v 8 9) (v 8 10))) hS 4 rfl rfl 3 (by decide) rfl wd_49 rfl rfl rfl (Nat.le_of_ble_eq_true rfl) dX3_copyFrom_38 (fun H locs hq_11 hS => ?_)
  have hP : PW G (stW G q (mkS (v 0) (v 1) (v 2) (fX5_copyRow 12 (v2 3) 12 (v 3)) (fX5_copyRow 12 (v2 4) 12 (v 4)) (fX5_copyRow 12 (v2 5) 12 (v 5)) (v 6) (v 7) w_10 (v 8 1) (v 8 2) (v 8 3) (v 8 4) (v 8 5) (v 8 6) (v 8 7) (v 8 8) (v 8 9) (v 8 10))) H := hq_11
  have e_12 : fX3_copyFrom v v2 = mkS (v 0) (v 1) (v 2) (fX5_copyRow 12 (v2 3) 12 (v 3)) (fX5_copyRow 12 (v2 4) 12 (v 4)) (fX5_copyRow 12 (v2 5) 12 (v 5)) (v 6) (v 7) w_10 (v 8 1) (v 8 2) (v 8 3) (v 8 4) (v 8 5) (v 8 6) (v 8 7) (v 8 8) (v 8 9) (v 8 10) := by subst ew_10; exact rfl
  have hg : fX3_copyFrom v v2 = mkS (v 0) (v 1) (v 2) (fX5_copyRow 12 (v2 3) 12 (v 3)) (fX5_copyRow 12 (v2 4) 12 (v 4)) (fX5_copyRow 12 (v2 5) 12 (v 5)) (v 6) (v 7) w_10 (v 8 1) (v 8 2) (v 8 3) (v 8 4) (v 8 5) (v 8 6) (v 8 7) (v 8 8) (v 8 9) (v 8 10) := hg.trans (congrArg (fun z => z) e_12)
  exact eE_v hC (by show PW G (stW G q (fX3_copyFrom v v2)) H; rw [hg]; exact hP) hS dX3_copyFrom_41

theorem dX4_copyFrom_0 : decode cX4_copyFrom 0 = .ok (.aload_n 1, 1) := by decide +kernel
theorem dX4_copyFrom_1 : decode cX4_copyFrom 1 = .ok (.getfield 9, 3) := by decide +kernel
theorem dX4_copyFrom_4 : decode cX4_copyFrom 4 = .ok (.aload_n 0, 1) := by decide +kernel
theorem dX4_copyFrom_5 : decode cX4_copyFrom 5 = .ok (.getfield 9, 3) := by decide +kernel
theorem dX4_copyFrom_8 : decode cX4_copyFrom 8 = .ok (.invokestatic 40, 3) := by decide +kernel
theorem dX4_copyFrom_11 : decode cX4_copyFrom 11 = .ok (.aload_n 1, 1) := by decide +kernel
theorem dX4_copyFrom_12 : decode cX4_copyFrom 12 = .ok (.getfield 15, 3) := by decide +kernel
theorem dX4_copyFrom_15 : decode cX4_copyFrom 15 = .ok (.aload_n 0, 1) := by decide +kernel
theorem dX4_copyFrom_16 : decode cX4_copyFrom 16 = .ok (.getfield 15, 3) := by decide +kernel
theorem dX4_copyFrom_19 : decode cX4_copyFrom 19 = .ok (.invokestatic 40, 3) := by decide +kernel
theorem dX4_copyFrom_22 : decode cX4_copyFrom 22 = .ok (.aload_n 0, 1) := by decide +kernel
theorem dX4_copyFrom_23 : decode cX4_copyFrom 23 = .ok (.aload_n 1, 1) := by decide +kernel
theorem dX4_copyFrom_24 : decode cX4_copyFrom 24 = .ok (.getfield 18, 3) := by decide +kernel
theorem dX4_copyFrom_27 : decode cX4_copyFrom 27 = .ok (.putfield 18, 3) := by decide +kernel
theorem dX4_copyFrom_30 : decode cX4_copyFrom 30 = .ok (.aload_n 0, 1) := by decide +kernel
theorem dX4_copyFrom_31 : decode cX4_copyFrom 31 = .ok (.aload_n 1, 1) := by decide +kernel
theorem dX4_copyFrom_32 : decode cX4_copyFrom 32 = .ok (.getfield 22, 3) := by decide +kernel
theorem dX4_copyFrom_35 : decode cX4_copyFrom 35 = .ok (.putfield 22, 3) := by decide +kernel
theorem dX4_copyFrom_38 : decode cX4_copyFrom 38 = .ok (.aload_n 0, 1) := by decide +kernel
theorem dX4_copyFrom_39 : decode cX4_copyFrom 39 = .ok (.aload_n 1, 1) := by decide +kernel
theorem dX4_copyFrom_40 : decode cX4_copyFrom 40 = .ok (.getfield 25, 3) := by decide +kernel
theorem dX4_copyFrom_43 : decode cX4_copyFrom 43 = .ok (.putfield 25, 3) := by decide +kernel
theorem dX4_copyFrom_46 : decode cX4_copyFrom 46 = .ok (.aload_n 0, 1) := by decide +kernel
theorem dX4_copyFrom_47 : decode cX4_copyFrom 47 = .ok (.aload_n 1, 1) := by decide +kernel
theorem dX4_copyFrom_48 : decode cX4_copyFrom 48 = .ok (.getfield 28, 3) := by decide +kernel
theorem dX4_copyFrom_51 : decode cX4_copyFrom 51 = .ok (.putfield 28, 3) := by decide +kernel
theorem dX4_copyFrom_54 : decode cX4_copyFrom 54 = .ok (.aload_n 0, 1) := by decide +kernel
theorem dX4_copyFrom_55 : decode cX4_copyFrom 55 = .ok (.aload_n 1, 1) := by decide +kernel
theorem dX4_copyFrom_56 : decode cX4_copyFrom 56 = .ok (.getfield 31, 3) := by decide +kernel
theorem dX4_copyFrom_59 : decode cX4_copyFrom 59 = .ok (.putfield 31, 3) := by decide +kernel
theorem dX4_copyFrom_62 : decode cX4_copyFrom 62 = .ok (.aload_n 0, 1) := by decide +kernel
theorem dX4_copyFrom_63 : decode cX4_copyFrom 63 = .ok (.aload_n 1, 1) := by decide +kernel
theorem dX4_copyFrom_64 : decode cX4_copyFrom 64 = .ok (.getfield 34, 3) := by decide +kernel
theorem dX4_copyFrom_67 : decode cX4_copyFrom 67 = .ok (.putfield 34, 3) := by decide +kernel
theorem dX4_copyFrom_70 : decode cX4_copyFrom 70 = .ok (.aload_n 0, 1) := by decide +kernel
theorem dX4_copyFrom_71 : decode cX4_copyFrom 71 = .ok (.aload_n 1, 1) := by decide +kernel
theorem dX4_copyFrom_72 : decode cX4_copyFrom 72 = .ok (.getfield 37, 3) := by decide +kernel
theorem dX4_copyFrom_75 : decode cX4_copyFrom 75 = .ok (.putfield 37, 3) := by decide +kernel
theorem dX4_copyFrom_78 : decode cX4_copyFrom 78 = .ok (.return_, 1) := by decide +kernel
set_option maxHeartbeats 1000000 in
set_option maxRecDepth 100000 in
theorem c_X4_copyFrom (l : Launch) (G : GT) (q : Nat → Nat) (v : SV) (q2 : Nat → Nat) (v2 : SV) (hq : stD G q) (hd : stN q q2) : Met l yX4_copyFrom (Cond.code yX4_copyFrom cX4_copyFrom 2 none :: bigW) ({ frames := 2, cells := 0, slots := 0, locals := 51 }) (BP G [.ref (q 8), .ref (q2 8)] (fun U H => PW G (stW G q v) H ∧ PW G (stW G q2 v2) H)) (QE (none) (fun H => PW G (stW G q (fX4_copyFrom v v2)) H) (stA q)) 0 0 (stA q) := by
  refine met_of (by decide) (Nat.le_of_ble_eq_true rfl) ?_
  intro p e s m below meth c ls hC hKN hB0 hl
  obtain ⟨hP, hP2⟩ := hB0
  have hl : lv_has ls 2 [(0, .ref (q 8)), (1, .ref (q2 8))] := hl
  have hS : va_S (stA q) s.heap s.heap [] := va_S.rf
  have hAL : ∀ a, (stA q) a → gL G ≤ a := stD_low hq
  have hg : fX4_copyFrom v v2 = fX4_copyFrom v v2 := rfl
  refine lv_aload_n hC.1 hC.2.1 dX4_copyFrom_0 rfl (lv_at hl 1 rfl) ?_
  refine gf (v := .ref (q2 9)) hC fwX4 hKN hP2 8 rfl rfl 0 (by decide) rfl wd_68 rfl dX4_copyFrom_1 ?_
  refine lv_aload_n hC.1 hC.2.1 dX4_copyFrom_4 rfl (lv_at hl 0 rfl) ?_
  refine gf (v := .ref (q 9)) hC fwX4 hKN hP 8 rfl rfl 0 (by decide) rfl wd_68 rfl dX4_copyFrom_5 ?_
  refine runE (rSN (B := fun U H => RD (q2 9) 24 (v2 6) U H ∧ PW G (a1W G (q 9) 24 (v 6)) H) (As := [.ref (q2 9), .ref (q 9)]) (rest := []) hC mwX5_copyRow (c_X5_copyRow l G (q2 9) 24 (v2 6) (q 9) 24 (v 6) (stD_low hq _ ⟨9, by decide, rfl⟩) ⟨rfl, by decide⟩) wd_32 (nm_6 hKN) ⟨rfl, rfl⟩ ⟨Nat.le_of_ble_eq_true rfl, Nat.le_of_ble_eq_true rfl⟩ (stb_and (stb_RD _ _ _) (stb_h (fun H => PW G (a1W G (q 9) 24 (v 6)) H))) hKN ⟨(RD.ofP hKN hP2 9 rfl), (one_of hP 9 rfl)⟩ rfl hl.1 rfl (Nat.le_of_ble_eq_true rfl) dX4_copyFrom_8 ⟨Nat.zero_le _, Nat.zero_le _⟩) hS (fun _ h => ⟨9, by decide, h⟩) (fun _ h => ⟨9, by decide, h⟩) (fun H locs hq_1 _ hk_3 hS => ?_)
  have hP : PW G (stW G q (mkS (v 0) (v 1) (v 2) (v 3) (v 4) (v 5) (fX5_copyRow 24 (v2 6) 24 (v 6)) (v 7) (v 8 0) (v 8 1) (v 8 2) (v 8 3) (v 8 4) (v 8 5) (v 8 6) (v 8 7) (v 8 8) (v 8 9) (v 8 10))) H := one_set hP (stD_D hq v) 9 rfl hq_1 hk_3
  refine lv_aload_n hC.1 hC.2.1 dX4_copyFrom_11 rfl (lv_at hl 1 rfl) ?_
  refine gf (v := .ref (q2 10)) hC fwX4 (hKN.go hAL hS) (keepS hP2 hS (stN_na hd v2)) 8 rfl rfl 1 (by decide) rfl wd_70 rfl dX4_copyFrom_12 ?_
  refine lv_aload_n hC.1 hC.2.1 dX4_copyFrom_15 rfl (lv_at hl 0 rfl) ?_
  refine gf (v := .ref (q 10)) hC fwX4 (hKN.go hAL hS) hP 8 rfl rfl 1 (by decide) rfl wd_70 rfl dX4_copyFrom_16 ?_
  refine runE (rSN (B := fun U H => RD (q2 10) 24 (v2 7) U H ∧ PW G (a1W G (q 10) 24 (v 7)) H) (As := [.ref (q2 10), .ref (q 10)]) (rest := []) hC mwX5_copyRow (c_X5_copyRow l G (q2 10) 24 (v2 7) (q 10) 24 (v 7) (stD_low hq _ ⟨10, by decide, rfl⟩) ⟨rfl, by decide⟩) wd_32 (nm_6 (hKN.go hAL hS)) ⟨rfl, rfl⟩ ⟨Nat.le_of_ble_eq_true rfl, Nat.le_of_ble_eq_true rfl⟩ (stb_and (stb_RD _ _ _) (stb_h (fun H => PW G (a1W G (q 10) 24 (v 7)) H))) (hKN.go hAL hS) ⟨(RD.ofP (hKN.go hAL hS) (keepS hP2 hS (stN_na hd v2)) 10 rfl), (one_of hP 10 rfl)⟩ rfl hl.1 rfl (Nat.le_of_ble_eq_true rfl) dX4_copyFrom_19 ⟨Nat.zero_le _, Nat.zero_le _⟩) hS (fun _ h => ⟨10, by decide, h⟩) (fun _ h => ⟨10, by decide, h⟩) (fun H locs hq_4 _ hk_6 hS => ?_)
  have hP : PW G (stW G q (mkS (v 0) (v 1) (v 2) (v 3) (v 4) (v 5) (fX5_copyRow 24 (v2 6) 24 (v 6)) (fX5_copyRow 24 (v2 7) 24 (v 7)) (v 8 0) (v 8 1) (v 8 2) (v 8 3) (v 8 4) (v 8 5) (v 8 6) (v 8 7) (v 8 8) (v 8 9) (v 8 10))) H := one_set hP (stD_D hq (mkS (v 0) (v 1) (v 2) (v 3) (v 4) (v 5) (fX5_copyRow 24 (v2 6) 24 (v 6)) (v 7) (v 8 0) (v 8 1) (v 8 2) (v 8 3) (v 8 4) (v 8 5) (v 8 6) (v 8 7) (v 8 8) (v 8 9) (v 8 10))) 10 rfl hq_4 hk_6
  refine lv_aload_n hC.1 hC.2.1 dX4_copyFrom_22 rfl (lv_at hl 0 rfl) ?_
  refine lv_aload_n hC.1 hC.2.1 dX4_copyFrom_23 rfl (lv_at hl 1 rfl) ?_
  refine gf (v := .int (v2 8 1)) hC fwX4 (hKN.go hAL hS) (keepS hP2 hS (stN_na hd v2)) 8 rfl rfl 2 (by decide) rfl wd_72 rfl dX4_copyFrom_24 ?_
  refine lv_topi (fun w_7 ew_7 => ?_)
  refine pf (v := .int w_7) (tv := .int) hC fwX4 (hKN.go hAL hS) hP (stD_D hq (mkS (v 0) (v 1) (v 2) (v 3) (v 4) (v 5) (fX5_copyRow 24 (v2 6) 24 (v 6)) (fX5_copyRow 24 (v2 7) 24 (v 7)) (v 8 0) (v 8 1) (v 8 2) (v 8 3) (v 8 4) (v 8 5) (v 8 6) (v 8 7) (v 8 8) (v 8 9) (v 8 10))) hS 8 rfl rfl 2 (by decide) rfl wd_72 rfl rfl rfl (Nat.le_of_ble_eq_true rfl) dX4_copyFrom_27 (fun H locs hq_8 hS => ?_)
  have hP : PW G (stW G q (mkS (v 0) (v 1) (v 2) (v 3) (v 4) (v 5) (fX5_copyRow 24 (v2 6) 24 (v 6)) (fX5_copyRow 24 (v2 7) 24 (v 7)) (v 8 0) w_7 (v 8 2) (v 8 3) (v 8 4) (v 8 5) (v 8 6) (v 8 7) (v 8 8) (v 8 9) (v 8 10))) H := hq_8
  refine lv_aload_n hC.1 hC.2.1 dX4_copyFrom_30 rfl (lv_at hl 0 rfl) ?_
  refine lv_aload_n hC.1 hC.2.1 dX4_copyFrom_31 rfl (lv_at hl 1 rfl) ?_
  refine gf (v := .int (v2 8 2)) hC fwX4 (hKN.go hAL hS) (keepS hP2 hS (stN_na hd v2)) 8 rfl rfl 3 (by decide) rfl wd_75 rfl dX4_copyFrom_32 ?_
  refine lv_topi (fun w_9 ew_9 => ?_)
  refine pf (v := .int w_9) (tv := .int) hC fwX4 (hKN.go hAL hS) hP (stD_D hq (mkS (v 0) (v 1) (v 2) (v 3) (v 4) (v 5) (fX5_copyRow 24 (v2 6) 24 (v 6)) (fX5_copyRow 24 (v2 7) 24 (v 7)) (v 8 0) w_7 (v 8 2) (v 8 3) (v 8 4) (v 8 5) (v 8 6) (v 8 7) (v 8 8) (v 8 9) (v 8 10))) hS 8 rfl rfl 3 (by decide) rfl wd_75 rfl rfl rfl (Nat.le_of_ble_eq_true rfl) dX4_copyFrom_35 (fun H locs hq_10 hS => ?_)
  have hP : PW G (stW G q (mkS (v 0) (v 1) (v 2) (v 3) (v 4) (v 5) (fX5_copyRow 24 (v2 6) 24 (v 6)) (fX5_copyRow 24 (v2 7) 24 (v 7)) (v 8 0) w_7 w_9 (v 8 3) (v 8 4) (v 8 5) (v 8 6) (v 8 7) (v 8 8) (v 8 9) (v 8 10))) H := hq_10
  refine lv_aload_n hC.1 hC.2.1 dX4_copyFrom_38 rfl (lv_at hl 0 rfl) ?_
  refine lv_aload_n hC.1 hC.2.1 dX4_copyFrom_39 rfl (lv_at hl 1 rfl) ?_
  refine gf (v := .int (v2 8 3)) hC fwX4 (hKN.go hAL hS) (keepS hP2 hS (stN_na hd v2)) 8 rfl rfl 4 (by decide) rfl wd_77 rfl dX4_copyFrom_40 ?_
  refine lv_topi (fun w_11 ew_11 => ?_)
  refine pf (v := .int w_11) (tv := .int) hC fwX4 (hKN.go hAL hS) hP (stD_D hq (mkS (v 0) (v 1) (v 2) (v 3) (v 4) (v 5) (fX5_copyRow 24 (v2 6) 24 (v 6)) (fX5_copyRow 24 (v2 7) 24 (v 7)) (v 8 0) w_7 w_9 (v 8 3) (v 8 4) (v 8 5) (v 8 6) (v 8 7) (v 8 8) (v 8 9) (v 8 10))) hS 8 rfl rfl 4 (by decide) rfl wd_77 rfl rfl rfl (Nat.le_of_ble_eq_true rfl) dX4_copyFrom_43 (fun H locs hq_12 hS => ?_)
  have hP : PW G (stW G q (mkS (v 0) (v 1) (v 2) (v 3) (v 4) (v 5) (fX5_copyRow 24 (v2 6) 24 (v 6)) (fX5_copyRow 24 (v2 7) 24 (v 7)) (v 8 0) w_7 w_9 w_11 (v 8 4) (v 8 5) (v 8 6) (v 8 7) (v 8 8) (v 8 9) (v 8 10))) H := hq_12
  refine lv_aload_n hC.1 hC.2.1 dX4_copyFrom_46 rfl (lv_at hl 0 rfl) ?_
  refine lv_aload_n hC.1 hC.2.1 dX4_copyFrom_47 rfl (lv_at hl 1 rfl) ?_
  refine gf (v := .int (v2 8 4)) hC fwX4 (hKN.go hAL hS) (keepS hP2 hS (stN_na hd v2)) 8 rfl rfl 5 (by decide) rfl wd_79 rfl dX4_copyFrom_48 ?_
  refine lv_topi (fun w_13 ew_13 => ?_)
  refine pf (v := .int w_13) (tv := .int) hC fwX4 (hKN.go hAL hS) hP (stD_D hq (mkS (v 0) (v 1) (v 2) (v 3) (v 4) (v 5) (fX5_copyRow 24 (v2 6) 24 (v 6)) (fX5_copyRow 24 (v2 7) 24 (v 7)) (v 8 0) w_7 w_9 w_11 (v 8 4) (v 8 5) (v 8 6) (v 8 7) (v 8 8) (v 8 9) (v 8 10))) hS 8 rfl rfl 5 (by decide) rfl wd_79 rfl rfl rfl (Nat.le_of_ble_eq_true rfl) dX4_copyFrom_51 (fun H locs hq_14 hS => ?_)
  have hP : PW G (stW G q (mkS (v 0) (v 1) (v 2) (v 3) (v 4) (v 5) (fX5_copyRow 24 (v2 6) 24 (v 6)) (fX5_copyRow 24 (v2 7) 24 (v 7)) (v 8 0) w_7 w_9 w_11 w_13 (v 8 5) (v 8 6) (v 8 7) (v 8 8) (v 8 9) (v 8 10))) H := hq_14
  refine lv_aload_n hC.1 hC.2.1 dX4_copyFrom_54 rfl (lv_at hl 0 rfl) ?_
  refine lv_aload_n hC.1 hC.2.1 dX4_copyFrom_55 rfl (lv_at hl 1 rfl) ?_
  refine gf (v := .int (v2 8 5)) hC fwX4 (hKN.go hAL hS) (keepS hP2 hS (stN_na hd v2)) 8 rfl rfl 6 (by decide) rfl wd_82 rfl dX4_copyFrom_56 ?_
  refine lv_topi (fun w_15 ew_15 => ?_)
  refine pf (v := .int w_15) (tv := .int) hC fwX4 (hKN.go hAL hS) hP (stD_D hq (mkS (v 0) (v 1) (v 2) (v 3) (v 4) (v 5) (fX5_copyRow 24 (v2 6) 24 (v 6)) (fX5_copyRow 24 (v2 7) 24 (v 7)) (v 8 0) w_7 w_9 w_11 w_13 (v 8 5) (v 8 6) (v 8 7) (v 8 8) (v 8 9) (v 8 10))) hS 8 rfl rfl 6 (by decide) rfl wd_82 rfl rfl rfl (Nat.le_of_ble_eq_true rfl) dX4_copyFrom_59 (fun H locs hq_16 hS => ?_)
  have hP : PW G (stW G q (mkS (v 0) (v 1) (v 2) (v 3) (v 4) (v 5) (fX5_copyRow 24 (v2 6) 24 (v 6)) (fX5_copyRow 24 (v2 7) 24 (v 7)) (v 8 0) w_7 w_9 w_11 w_13 w_15 (v 8 6) (v 8 7) (v 8 8) (v 8 9) (v 8 10))) H := hq_16
  refine lv_aload_n hC.1 hC.2.1 dX4_copyFrom_62 rfl (lv_at hl 0 rfl) ?_
  refine lv_aload_n hC.1 hC.2.1 dX4_copyFrom_63 rfl (lv_at hl 1 rfl) ?_
  refine gf (v := .int (v2 8 6)) hC fwX4 (hKN.go hAL hS) (keepS hP2 hS (stN_na hd v2)) 8 rfl rfl 7 (by decide) rfl wd_84 rfl dX4_copyFrom_64 ?_
  refine lv_topi (fun w_17 ew_17 => ?_)
  refine pf (v := .int w_17) (tv := .int) hC fwX4 (hKN.go hAL hS) hP (stD_D hq (mkS (v 0) (v 1) (v 2) (v 3) (v 4) (v 5) (fX5_copyRow 24 (v2 6) 24 (v 6)) (fX5_copyRow 24 (v2 7) 24 (v 7)) (v 8 0) w_7 w_9 w_11 w_13 w_15 (v 8 6) (v 8 7) (v 8 8) (v 8 9) (v 8 10))) hS 8 rfl rfl 7 (by decide) rfl wd_84 rfl rfl rfl (Nat.le_of_ble_eq_true rfl) dX4_copyFrom_67 (fun H locs hq_18 hS => ?_)
  have hP : PW G (stW G q (mkS (v 0) (v 1) (v 2) (v 3) (v 4) (v 5) (fX5_copyRow 24 (v2 6) 24 (v 6)) (fX5_copyRow 24 (v2 7) 24 (v 7)) (v 8 0) w_7 w_9 w_11 w_13 w_15 w_17 (v 8 7) (v 8 8) (v 8 9) (v 8 10))) H := hq_18
  refine lv_aload_n hC.1 hC.2.1 dX4_copyFrom_70 rfl (lv_at hl 0 rfl) ?_
  refine lv_aload_n hC.1 hC.2.1 dX4_copyFrom_71 rfl (lv_at hl 1 rfl) ?_
  refine gf (v := .int (v2 8 7)) hC fwX4 (hKN.go hAL hS) (keepS hP2 hS (stN_na hd v2)) 8 rfl rfl 8 (by decide) rfl wd_86 rfl dX4_copyFrom_72 ?_
  refine lv_topi (fun w_19 ew_19 => ?_)
  refine pf (v := .int w_19) (tv := .int) hC fwX4 (hKN.go hAL hS) hP (stD_D hq (mkS (v 0) (v 1) (v 2) (v 3) (v 4) (v 5) (fX5_copyRow 24 (v2 6) 24 (v 6)) (fX5_copyRow 24 (v2 7) 24 (v 7)) (v 8 0) w_7 w_9 w_11 w_13 w_15 w_17 (v 8 7) (v 8 8) (v 8 9) (v 8 10))) hS 8 rfl rfl 8 (by decide) rfl wd_86 rfl rfl rfl (Nat.le_of_ble_eq_true rfl) dX4_copyFrom_75 (fun H locs hq_20 hS => ?_)
  have hP : PW G (stW G q (mkS (v 0) (v 1) (v 2) (v 3) (v 4) (v 5) (fX5_copyRow 24 (v2 6) 24 (v 6)) (fX5_copyRow 24 (v2 7) 24 (v 7)) (v 8 0) w_7 w_9 w_11 w_13 w_15 w_17 w_19 (v 8 8) (v 8 9) (v 8 10))) H := hq_20
  have e_21 : fX4_copyFrom v v2 = mkS (v 0) (v 1) (v 2) (v 3) (v 4) (v 5) (fX5_copyRow 24 (v2 6) 24 (v 6)) (fX5_copyRow 24 (v2 7) 24 (v 7)) (v 8 0) w_7 w_9 w_11 w_13 w_15 w_17 w_19 (v 8 8) (v 8 9) (v 8 10) := by subst ew_19; subst ew_17; subst ew_15; subst ew_13; subst ew_11; subst ew_9; subst ew_7; exact rfl
  have hg : fX4_copyFrom v v2 = mkS (v 0) (v 1) (v 2) (v 3) (v 4) (v 5) (fX5_copyRow 24 (v2 6) 24 (v 6)) (fX5_copyRow 24 (v2 7) 24 (v 7)) (v 8 0) w_7 w_9 w_11 w_13 w_15 w_17 w_19 (v 8 8) (v 8 9) (v 8 10) := hg.trans (congrArg (fun z => z) e_21)
  exact eE_v hC (by show PW G (stW G q (fX4_copyFrom v v2)) H; rw [hg]; exact hP) hS dX4_copyFrom_78

theorem dX2_copyFrom_0 : decode cX2_copyFrom 0 = .ok (.aload_n 1, 1) := by decide +kernel
theorem dX2_copyFrom_1 : decode cX2_copyFrom 1 = .ok (.getfield 9, 3) := by decide +kernel
theorem dX2_copyFrom_4 : decode cX2_copyFrom 4 = .ok (.aload_n 0, 1) := by decide +kernel
theorem dX2_copyFrom_5 : decode cX2_copyFrom 5 = .ok (.getfield 9, 3) := by decide +kernel
theorem dX2_copyFrom_8 : decode cX2_copyFrom 8 = .ok (.invokestatic 24, 3) := by decide +kernel
theorem dX2_copyFrom_11 : decode cX2_copyFrom 11 = .ok (.aload_n 1, 1) := by decide +kernel
theorem dX2_copyFrom_12 : decode cX2_copyFrom 12 = .ok (.getfield 21, 3) := by decide +kernel
theorem dX2_copyFrom_15 : decode cX2_copyFrom 15 = .ok (.aload_n 0, 1) := by decide +kernel
theorem dX2_copyFrom_16 : decode cX2_copyFrom 16 = .ok (.getfield 21, 3) := by decide +kernel
theorem dX2_copyFrom_19 : decode cX2_copyFrom 19 = .ok (.invokestatic 24, 3) := by decide +kernel
theorem dX2_copyFrom_22 : decode cX2_copyFrom 22 = .ok (.aload_n 0, 1) := by decide +kernel
theorem dX2_copyFrom_23 : decode cX2_copyFrom 23 = .ok (.getfield 31, 3) := by decide +kernel
theorem dX2_copyFrom_26 : decode cX2_copyFrom 26 = .ok (.aload_n 1, 1) := by decide +kernel
theorem dX2_copyFrom_27 : decode cX2_copyFrom 27 = .ok (.getfield 31, 3) := by decide +kernel
theorem dX2_copyFrom_30 : decode cX2_copyFrom 30 = .ok (.invokevirtual 52, 3) := by decide +kernel
theorem dX2_copyFrom_33 : decode cX2_copyFrom 33 = .ok (.aload_n 0, 1) := by decide +kernel
theorem dX2_copyFrom_34 : decode cX2_copyFrom 34 = .ok (.getfield 38, 3) := by decide +kernel
theorem dX2_copyFrom_37 : decode cX2_copyFrom 37 = .ok (.aload_n 1, 1) := by decide +kernel
theorem dX2_copyFrom_38 : decode cX2_copyFrom 38 = .ok (.getfield 38, 3) := by decide +kernel
theorem dX2_copyFrom_41 : decode cX2_copyFrom 41 = .ok (.invokevirtual 56, 3) := by decide +kernel
theorem dX2_copyFrom_44 : decode cX2_copyFrom 44 = .ok (.aload_n 0, 1) := by decide +kernel
theorem dX2_copyFrom_45 : decode cX2_copyFrom 45 = .ok (.aload_n 1, 1) := by decide +kernel
theorem dX2_copyFrom_46 : decode cX2_copyFrom 46 = .ok (.getfield 42, 3) := by decide +kernel
theorem dX2_copyFrom_49 : decode cX2_copyFrom 49 = .ok (.putfield 42, 3) := by decide +kernel
theorem dX2_copyFrom_52 : decode cX2_copyFrom 52 = .ok (.aload_n 0, 1) := by decide +kernel
theorem dX2_copyFrom_53 : decode cX2_copyFrom 53 = .ok (.aload_n 1, 1) := by decide +kernel
theorem dX2_copyFrom_54 : decode cX2_copyFrom 54 = .ok (.getfield 46, 3) := by decide +kernel
theorem dX2_copyFrom_57 : decode cX2_copyFrom 57 = .ok (.putfield 46, 3) := by decide +kernel
theorem dX2_copyFrom_60 : decode cX2_copyFrom 60 = .ok (.aload_n 0, 1) := by decide +kernel
theorem dX2_copyFrom_61 : decode cX2_copyFrom 61 = .ok (.aload_n 1, 1) := by decide +kernel
theorem dX2_copyFrom_62 : decode cX2_copyFrom 62 = .ok (.getfield 49, 3) := by decide +kernel
theorem dX2_copyFrom_65 : decode cX2_copyFrom 65 = .ok (.putfield 49, 3) := by decide +kernel
theorem dX2_copyFrom_68 : decode cX2_copyFrom 68 = .ok (.return_, 1) := by decide +kernel
set_option maxHeartbeats 1000000 in
set_option maxRecDepth 100000 in
theorem c_X2_copyFrom (l : Launch) (G : GT) (q : Nat → Nat) (v : SV) (q2 : Nat → Nat) (v2 : SV) (hq : stD G q) (hd : stN q q2) : Met l yX2_copyFrom (Cond.code yX2_copyFrom cX2_copyFrom 2 none :: bigW) ({ frames := 3, cells := 0, slots := 0, locals := 72 }) (BP G [.ref (q 0), .ref (q2 0)] (fun U H => PW G (stW G q v) H ∧ PW G (stW G q2 v2) H)) (QE (none) (fun H => PW G (stW G q (fX2_copyFrom v v2)) H) (stA q)) 0 0 (stA q) := by
  refine met_of (by decide) (Nat.le_of_ble_eq_true rfl) ?_
  intro p e s m below meth c ls hC hKN hB0 hl
  obtain ⟨hP, hP2⟩ := hB0
  have hl : lv_has ls 2 [(0, .ref (q 0)), (1, .ref (q2 0))] := hl
  have hS : va_S (stA q) s.heap s.heap [] := va_S.rf
  have hAL : ∀ a, (stA q) a → gL G ≤ a := stD_low hq
  have hg : fX2_copyFrom v v2 = fX2_copyFrom v v2 := rfl
  refine lv_aload_n hC.1 hC.2.1 dX2_copyFrom_0 rfl (lv_at hl 1 rfl) ?_
  refine gf (v := .ref (q2 1)) hC fwX2 hKN hP2 0 rfl rfl 0 (by decide) rfl wd_108 rfl dX2_copyFrom_1 ?_
  refine lv_aload_n hC.1 hC.2.1 dX2_copyFrom_4 rfl (lv_at hl 0 rfl) ?_
  refine gf (v := .ref (q 1)) hC fwX2 hKN hP 0 rfl rfl 0 (by decide) rfl wd_108 rfl dX2_copyFrom_5 ?_
  refine runE (rSN (B := fun U H => RD (q2 1) 24 (v2 0) U H ∧ PW G (a1W G (q 1) 24 (v 0)) H) (As := [.ref (q2 1), .ref (q 1)]) (rest := []) hC mwX5_copyRow (c_X5_copyRow l G (q2 1) 24 (v2 0) (q 1) 24 (v 0) (stD_low hq _ ⟨1, by decide, rfl⟩) ⟨rfl, by decide⟩) wd_32 (nm_0 hKN) ⟨rfl, rfl⟩ ⟨Nat.le_of_ble_eq_true rfl, Nat.le_of_ble_eq_true rfl⟩ (stb_and (stb_RD _ _ _) (stb_h (fun H => PW G (a1W G (q 1) 24 (v 0)) H))) hKN ⟨(RD.ofP hKN hP2 1 rfl), (one_of hP 1 rfl)⟩ rfl hl.1 rfl (Nat.le_of_ble_eq_true rfl) dX2_copyFrom_8 ⟨Nat.zero_le _, Nat.zero_le _⟩) hS (fun _ h => ⟨1, by decide, h⟩) (fun _ h => ⟨1, by decide, h⟩) (fun H locs hq_1 _ hk_3 hS => ?_)
  have hP : PW G (stW G q (mkS (fX5_copyRow 24 (v2 0) 24 (v 0)) (v 1) (v 2) (v 3) (v 4) (v 5) (v 6) (v 7) (v 8 0) (v 8 1) (v 8 2) (v 8 3) (v 8 4) (v 8 5) (v 8 6) (v 8 7) (v 8 8) (v 8 9) (v 8 10))) H := one_set hP (stD_D hq v) 1 rfl hq_1 hk_3
  refine lv_aload_n hC.1 hC.2.1 dX2_copyFrom_11 rfl (lv_at hl 1 rfl) ?_
  refine gf (v := .ref (q2 3)) hC fwX2 (hKN.go hAL hS) (keepS hP2 hS (stN_na hd v2)) 0 rfl rfl 2 (by decide) rfl wd_110 rfl dX2_copyFrom_12 ?_
  refine lv_aload_n hC.1 hC.2.1 dX2_copyFrom_15 rfl (lv_at hl 0 rfl) ?_
  refine gf (v := .ref (q 3)) hC fwX2 (hKN.go hAL hS) hP 0 rfl rfl 2 (by decide) rfl wd_110 rfl dX2_copyFrom_16 ?_
  refine runE (rSN (B := fun U H => RD (q2 3) 7 (v2 2) U H ∧ PW G (a1W G (q 3) 7 (v 2)) H) (As := [.ref (q2 3), .ref (q 3)]) (rest := []) hC mwX5_copyRow (c_X5_copyRow l G (q2 3) 7 (v2 2) (q 3) 7 (v 2) (stD_low hq _ ⟨3, by decide, rfl⟩) ⟨rfl, by decide⟩) wd_32 (nm_0 (hKN.go hAL hS)) ⟨rfl, rfl⟩ ⟨Nat.le_of_ble_eq_true rfl, Nat.le_of_ble_eq_true rfl⟩ (stb_and (stb_RD _ _ _) (stb_h (fun H => PW G (a1W G (q 3) 7 (v 2)) H))) (hKN.go hAL hS) ⟨(RD.ofP (hKN.go hAL hS) (keepS hP2 hS (stN_na hd v2)) 3 rfl), (one_of hP 3 rfl)⟩ rfl hl.1 rfl (Nat.le_of_ble_eq_true rfl) dX2_copyFrom_19 ⟨Nat.zero_le _, Nat.zero_le _⟩) hS (fun _ h => ⟨3, by decide, h⟩) (fun _ h => ⟨3, by decide, h⟩) (fun H locs hq_4 _ hk_6 hS => ?_)
  have hP : PW G (stW G q (mkS (fX5_copyRow 24 (v2 0) 24 (v 0)) (v 1) (fX5_copyRow 7 (v2 2) 7 (v 2)) (v 3) (v 4) (v 5) (v 6) (v 7) (v 8 0) (v 8 1) (v 8 2) (v 8 3) (v 8 4) (v 8 5) (v 8 6) (v 8 7) (v 8 8) (v 8 9) (v 8 10))) H := one_set hP (stD_D hq (mkS (fX5_copyRow 24 (v2 0) 24 (v 0)) (v 1) (v 2) (v 3) (v 4) (v 5) (v 6) (v 7) (v 8 0) (v 8 1) (v 8 2) (v 8 3) (v 8 4) (v 8 5) (v 8 6) (v 8 7) (v 8 8) (v 8 9) (v 8 10))) 3 rfl hq_4 hk_6
  refine lv_aload_n hC.1 hC.2.1 dX2_copyFrom_22 rfl (lv_at hl 0 rfl) ?_
  refine gf (v := .ref (q 4)) hC fwX2 (hKN.go hAL hS) hP 0 rfl rfl 3 (by decide) rfl wd_111 rfl dX2_copyFrom_23 ?_
  refine lv_aload_n hC.1 hC.2.1 dX2_copyFrom_26 rfl (lv_at hl 1 rfl) ?_
  refine gf (v := .ref (q2 4)) hC fwX2 (hKN.go hAL hS) (keepS hP2 hS (stN_na hd v2)) 0 rfl rfl 3 (by decide) rfl wd_111 rfl dX2_copyFrom_27 ?_
  refine runE (rV (B := fun U H => PW G (stW G q (mkS (fX5_copyRow 24 (v2 0) 24 (v 0)) (v 1) (fX5_copyRow 7 (v2 2) 7 (v 2)) (v 3) (v 4) (v 5) (v 6) (v 7) (v 8 0) (v 8 1) (v 8 2) (v 8 3) (v 8 4) (v 8 5) (v 8 6) (v 8 7) (v 8 8) (v 8 9) (v 8 10))) H ∧ PW G (stW G q2 v2) H) (As := [.ref (q2 4)]) (rest := []) hC mwX3_copyFrom (c_X3_copyFrom l G q (mkS (fX5_copyRow 24 (v2 0) 24 (v 0)) (v 1) (fX5_copyRow 7 (v2 2) 7 (v 2)) (v 3) (v 4) (v 5) (v 6) (v 7) (v 8 0) (v 8 1) (v 8 2) (v 8 3) (v 8 4) (v 8 5) (v 8 6) (v 8 7) (v 8 8) (v 8 9) (v 8 10)) q2 v2 hq hd) iwX3_copyFrom wd_462 ⟨rfl, rfl⟩ ⟨Nat.le_of_ble_eq_true rfl, Nat.le_of_ble_eq_true rfl⟩ (stb_and (stb_h (fun H => PW G (stW G q (mkS (fX5_copyRow 24 (v2 0) 24 (v 0)) (v 1) (fX5_copyRow 7 (v2 2) 7 (v 2)) (v 3) (v 4) (v 5) (v 6) (v 7) (v 8 0) (v 8 1) (v 8 2) (v 8 3) (v 8 4) (v 8 5) (v 8 6) (v 8 7) (v 8 8) (v 8 9) (v 8 10))) H)) (stb_h (fun H => PW G (stW G q2 v2) H))) (hKN.go hAL hS) ⟨hP, (keepS hP2 hS (stN_na hd v2))⟩ (va_recv (hKN.go hAL hS).k hP (ci := 3) (q0 := 4) rfl rfl) rfl hl.1 rfl (Nat.le_of_ble_eq_true rfl) dX2_copyFrom_30 ⟨Nat.zero_le _, Nat.zero_le _⟩) hS (fun _ h => h) (fun _ h => h) (fun H locs hq_7 _ _ hS => ?_)
  have hP : PW G (stW G q (fX3_copyFrom (mkS (fX5_copyRow 24 (v2 0) 24 (v 0)) (v 1) (fX5_copyRow 7 (v2 2) 7 (v 2)) (v 3) (v 4) (v 5) (v 6) (v 7) (v 8 0) (v 8 1) (v 8 2) (v 8 3) (v 8 4) (v 8 5) (v 8 6) (v 8 7) (v 8 8) (v 8 9) (v 8 10)) v2)) H := hq_7
  obtain ⟨r_8, er_8⟩ : ∃ z, z = fX3_copyFrom (mkS (fX5_copyRow 24 (v2 0) 24 (v 0)) (v 1) (fX5_copyRow 7 (v2 2) 7 (v 2)) (v 3) (v 4) (v 5) (v 6) (v 7) (v 8 0) (v 8 1) (v 8 2) (v 8 3) (v 8 4) (v 8 5) (v 8 6) (v 8 7) (v 8 8) (v 8 9) (v 8 10)) v2 := ⟨_, rfl⟩
  rw [← er_8] at hP
  refine lv_aload_n hC.1 hC.2.1 dX2_copyFrom_33 rfl (lv_at hl 0 rfl) ?_
  refine gf (v := .ref (q 8)) hC fwX2 (hKN.go hAL hS) hP 0 rfl rfl 4 (by decide) rfl wd_113 rfl dX2_copyFrom_34 ?_
  refine lv_aload_n hC.1 hC.2.1 dX2_copyFrom_37 rfl (lv_at hl 1 rfl) ?_
  refine gf (v := .ref (q2 8)) hC fwX2 (hKN.go hAL hS) (keepS hP2 hS (stN_na hd v2)) 0 rfl rfl 4 (by decide) rfl wd_113 rfl dX2_copyFrom_38 ?_
  refine runE (rV (B := fun U H => PW G (stW G q r_8) H ∧ PW G (stW G q2 v2) H) (As := [.ref (q2 8)]) (rest := []) hC mwX4_copyFrom (c_X4_copyFrom l G q r_8 q2 v2 hq hd) iwX4_copyFrom wd_467 ⟨rfl, rfl⟩ ⟨Nat.le_of_ble_eq_true rfl, Nat.le_of_ble_eq_true rfl⟩ (stb_and (stb_h (fun H => PW G (stW G q r_8) H)) (stb_h (fun H => PW G (stW G q2 v2) H))) (hKN.go hAL hS) ⟨hP, (keepS hP2 hS (stN_na hd v2))⟩ (va_recv (hKN.go hAL hS).k hP (ci := 4) (q0 := 8) rfl rfl) rfl hl.1 rfl (Nat.le_of_ble_eq_true rfl) dX2_copyFrom_41 ⟨Nat.zero_le _, Nat.zero_le _⟩) hS (fun _ h => h) (fun _ h => h) (fun H locs hq_9 _ _ hS => ?_)
  have hP : PW G (stW G q (fX4_copyFrom r_8 v2)) H := hq_9
  obtain ⟨r_10, er_10⟩ : ∃ z, z = fX4_copyFrom r_8 v2 := ⟨_, rfl⟩
  rw [← er_10] at hP
  refine lv_aload_n hC.1 hC.2.1 dX2_copyFrom_44 rfl (lv_at hl 0 rfl) ?_
  refine lv_aload_n hC.1 hC.2.1 dX2_copyFrom_45 rfl (lv_at hl 1 rfl) ?_
  refine gf (v := .int (v2 8 8)) hC fwX2 (hKN.go hAL hS) (keepS hP2 hS (stN_na hd v2)) 0 rfl rfl 5 (by decide) rfl wd_115 rfl dX2_copyFrom_46 ?_
  refine lv_topi (fun w_11 ew_11 => ?_)
  refine pf (v := .int w_11) (tv := .int) hC fwX2 (hKN.go hAL hS) hP (stD_D hq r_10) hS 0 rfl rfl 5 (by decide) rfl wd_115 rfl rfl rfl (Nat.le_of_ble_eq_true rfl) dX2_copyFrom_49 (fun H locs hq_12 hS => ?_)
  have hP : PW G (stW G q (mkS (r_10 0) (r_10 1) (r_10 2) (r_10 3) (r_10 4) (r_10 5) (r_10 6) (r_10 7) (r_10 8 0) (r_10 8 1) (r_10 8 2) (r_10 8 3) (r_10 8 4) (r_10 8 5) (r_10 8 6) (r_10 8 7) w_11 (r_10 8 9) (r_10 8 10))) H := hq_12
  refine lv_aload_n hC.1 hC.2.1 dX2_copyFrom_52 rfl (lv_at hl 0 rfl) ?_
  refine lv_aload_n hC.1 hC.2.1 dX2_copyFrom_53 rfl (lv_at hl 1 rfl) ?_
  refine gf (v := .int (v2 8 9)) hC fwX2 (hKN.go hAL hS) (keepS hP2 hS (stN_na hd v2)) 0 rfl rfl 6 (by decide) rfl wd_116 rfl dX2_copyFrom_54 ?_
  refine lv_topi (fun w_13 ew_13 => ?_)
  refine pf (v := .int w_13) (tv := .int) hC fwX2 (hKN.go hAL hS) hP (stD_D hq (mkS (r_10 0) (r_10 1) (r_10 2) (r_10 3) (r_10 4) (r_10 5) (r_10 6) (r_10 7) (r_10 8 0) (r_10 8 1) (r_10 8 2) (r_10 8 3) (r_10 8 4) (r_10 8 5) (r_10 8 6) (r_10 8 7) w_11 (r_10 8 9) (r_10 8 10))) hS 0 rfl rfl 6 (by decide) rfl wd_116 rfl rfl rfl (Nat.le_of_ble_eq_true rfl) dX2_copyFrom_57 (fun H locs hq_14 hS => ?_)
  have hP : PW G (stW G q (mkS (r_10 0) (r_10 1) (r_10 2) (r_10 3) (r_10 4) (r_10 5) (r_10 6) (r_10 7) (r_10 8 0) (r_10 8 1) (r_10 8 2) (r_10 8 3) (r_10 8 4) (r_10 8 5) (r_10 8 6) (r_10 8 7) w_11 w_13 (r_10 8 10))) H := hq_14
  refine lv_aload_n hC.1 hC.2.1 dX2_copyFrom_60 rfl (lv_at hl 0 rfl) ?_
  refine lv_aload_n hC.1 hC.2.1 dX2_copyFrom_61 rfl (lv_at hl 1 rfl) ?_
  refine gf (v := .int (v2 8 10)) hC fwX2 (hKN.go hAL hS) (keepS hP2 hS (stN_na hd v2)) 0 rfl rfl 7 (by decide) rfl wd_117 rfl dX2_copyFrom_62 ?_
  refine lv_topi (fun w_15 ew_15 => ?_)
  refine pf (v := .int w_15) (tv := .int) hC fwX2 (hKN.go hAL hS) hP (stD_D hq (mkS (r_10 0) (r_10 1) (r_10 2) (r_10 3) (r_10 4) (r_10 5) (r_10 6) (r_10 7) (r_10 8 0) (r_10 8 1) (r_10 8 2) (r_10 8 3) (r_10 8 4) (r_10 8 5) (r_10 8 6) (r_10 8 7) w_11 w_13 (r_10 8 10))) hS 0 rfl rfl 7 (by decide) rfl wd_117 rfl rfl rfl (Nat.le_of_ble_eq_true rfl) dX2_copyFrom_65 (fun H locs hq_16 hS => ?_)
  have hP : PW G (stW G q (mkS (r_10 0) (r_10 1) (r_10 2) (r_10 3) (r_10 4) (r_10 5) (r_10 6) (r_10 7) (r_10 8 0) (r_10 8 1) (r_10 8 2) (r_10 8 3) (r_10 8 4) (r_10 8 5) (r_10 8 6) (r_10 8 7) w_11 w_13 w_15)) H := hq_16
  have e_17 : fX2_copyFrom v v2 = mkS (r_10 0) (r_10 1) (r_10 2) (r_10 3) (r_10 4) (r_10 5) (r_10 6) (r_10 7) (r_10 8 0) (r_10 8 1) (r_10 8 2) (r_10 8 3) (r_10 8 4) (r_10 8 5) (r_10 8 6) (r_10 8 7) w_11 w_13 w_15 := by subst ew_15; subst ew_13; subst ew_11; subst er_10; subst er_8; exact rfl
  have hg : fX2_copyFrom v v2 = mkS (r_10 0) (r_10 1) (r_10 2) (r_10 3) (r_10 4) (r_10 5) (r_10 6) (r_10 7) (r_10 8 0) (r_10 8 1) (r_10 8 2) (r_10 8 3) (r_10 8 4) (r_10 8 5) (r_10 8 6) (r_10 8 7) w_11 w_13 w_15 := hg.trans (congrArg (fun z => z) e_17)
  exact eE_v hC (by show PW G (stW G q (fX2_copyFrom v v2)) H; rw [hg]; exact hP) hS dX2_copyFrom_68

theorem dX3_addLine_0 : decode cX3_addLine 0 = .ok (.aload_n 0, 1) := by decide +kernel
theorem dX3_addLine_1 : decode cX3_addLine 1 = .ok (.getfield 11, 3) := by decide +kernel
theorem dX3_addLine_4 : decode cX3_addLine 4 = .ok (.iload_n 1, 1) := by decide +kernel
theorem dX3_addLine_5 : decode cX3_addLine 5 = .ok (.invokestatic 29, 3) := by decide +kernel
theorem dX3_addLine_8 : decode cX3_addLine 8 = .ok (.aload_n 0, 1) := by decide +kernel
theorem dX3_addLine_9 : decode cX3_addLine 9 = .ok (.getfield 15, 3) := by decide +kernel
theorem dX3_addLine_12 : decode cX3_addLine 12 = .ok (.iload_n 2, 1) := by decide +kernel
theorem dX3_addLine_13 : decode cX3_addLine 13 = .ok (.invokestatic 29, 3) := by decide +kernel
theorem dX3_addLine_16 : decode cX3_addLine 16 = .ok (.aload_n 0, 1) := by decide +kernel
theorem dX3_addLine_17 : decode cX3_addLine 17 = .ok (.getfield 18, 3) := by decide +kernel
theorem dX3_addLine_20 : decode cX3_addLine 20 = .ok (.iload_n 3, 1) := by decide +kernel
theorem dX3_addLine_21 : decode cX3_addLine 21 = .ok (.invokestatic 29, 3) := by decide +kernel
theorem dX3_addLine_24 : decode cX3_addLine 24 = .ok (.aload_n 0, 1) := by decide +kernel
theorem dX3_addLine_25 : decode cX3_addLine 25 = .ok (.bipush 12, 2) := by decide +kernel
theorem dX3_addLine_27 : decode cX3_addLine 27 = .ok (.aload_n 0, 1) := by decide +kernel
theorem dX3_addLine_28 : decode cX3_addLine 28 = .ok (.getfield 21, 3) := by decide +kernel
theorem dX3_addLine_31 : decode cX3_addLine 31 = .ok (.iconst 1, 1) := by decide +kernel
theorem dX3_addLine_32 : decode cX3_addLine 32 = .ok (.iadd, 1) := by decide +kernel
theorem dX3_addLine_33 : decode cX3_addLine 33 = .ok (.invokestatic 33, 3) := by decide +kernel
theorem dX3_addLine_36 : decode cX3_addLine 36 = .ok (.putfield 21, 3) := by decide +kernel
theorem dX3_addLine_39 : decode cX3_addLine 39 = .ok (.return_, 1) := by decide +kernel
set_option maxHeartbeats 1000000 in
set_option maxRecDepth 100000 in
theorem c_X3_addLine (l : Launch) (G : GT) (q : Nat → Nat) (v : SV) (x1 : Int32) (x2 : Int32) (x3 : Int32) (hq : stD G q) : Met l yX3_addLine (Cond.code yX3_addLine cX3_addLine 4 none :: bigW) ({ frames := 2, cells := 0, slots := 0, locals := 44 }) (BP G [.ref (q 4), .int x1, .int x2, .int x3] (fun U H => PW G (stW G q v) H)) (QE (none) (fun H => PW G (stW G q (fX3_addLine v x1 x2 x3)) H) (stA q)) 0 0 (stA q) := by
  refine met_of (by decide) (Nat.le_of_ble_eq_true rfl) ?_
  intro p e s m below meth c ls hC hKN hB0 hl
  have hP := hB0
  have hl : lv_has ls 4 [(0, .ref (q 4)), (1, .int x1), (2, .int x2), (3, .int x3)] := hl
  have hS : va_S (stA q) s.heap s.heap [] := va_S.rf
  have hAL : ∀ a, (stA q) a → gL G ≤ a := stD_low hq
  have hg : fX3_addLine v x1 x2 x3 = fX3_addLine v x1 x2 x3 := rfl
  refine lv_aload_n hC.1 hC.2.1 dX3_addLine_0 rfl (lv_at hl 0 rfl) ?_
  refine gf (v := .ref (q 5)) hC fwX3 hKN hP 4 rfl rfl 0 (by decide) rfl wd_46 rfl dX3_addLine_1 ?_
  refine lv_iload_n hC.1 hC.2.1 dX3_addLine_4 rfl (lv_at hl 1 rfl) ?_
  refine runE (rS (B := fun U H => PW G (a1W G (q 5) 12 (v 3)) H) (As := [.ref (q 5), .int x1]) (rest := []) hC mwX3_pushFront (c_X3_pushFront l G (q 5) (v 3) x1 (stD_low hq _ ⟨5, by decide, rfl⟩)) wd_532 wd_531 ⟨rfl, rfl⟩ ⟨Nat.le_of_ble_eq_true rfl, Nat.le_of_ble_eq_true rfl⟩ (stb_h (fun H => PW G (a1W G (q 5) 12 (v 3)) H)) hKN (one_of hP 5 rfl) rfl hl.1 rfl (Nat.le_of_ble_eq_true rfl) dX3_addLine_5 ⟨Nat.zero_le _, Nat.zero_le _⟩) hS (fun _ h => ⟨5, by decide, h⟩) (fun _ h => ⟨5, by decide, h⟩) (fun H locs hq_1 _ hk_3 hS => ?_)
  have hP : PW G (stW G q (mkS (v 0) (v 1) (v 2) (fX3_pushFront (v 3) x1) (v 4) (v 5) (v 6) (v 7) (v 8 0) (v 8 1) (v 8 2) (v 8 3) (v 8 4) (v 8 5) (v 8 6) (v 8 7) (v 8 8) (v 8 9) (v 8 10))) H := one_set hP (stD_D hq v) 5 rfl hq_1 hk_3
  refine lv_aload_n hC.1 hC.2.1 dX3_addLine_8 rfl (lv_at hl 0 rfl) ?_
  refine gf (v := .ref (q 6)) hC fwX3 (hKN.go hAL hS) hP 4 rfl rfl 1 (by decide) rfl wd_47 rfl dX3_addLine_9 ?_
  refine lv_iload_n hC.1 hC.2.1 dX3_addLine_12 rfl (lv_at hl 2 rfl) ?_
  refine runE (rS (B := fun U H => PW G (a1W G (q 6) 12 (v 4)) H) (As := [.ref (q 6), .int x2]) (rest := []) hC mwX3_pushFront (c_X3_pushFront l G (q 6) (v 4) x2 (stD_low hq _ ⟨6, by decide, rfl⟩)) wd_532 wd_531 ⟨rfl, rfl⟩ ⟨Nat.le_of_ble_eq_true rfl, Nat.le_of_ble_eq_true rfl⟩ (stb_h (fun H => PW G (a1W G (q 6) 12 (v 4)) H)) (hKN.go hAL hS) (one_of hP 6 rfl) rfl hl.1 rfl (Nat.le_of_ble_eq_true rfl) dX3_addLine_13 ⟨Nat.zero_le _, Nat.zero_le _⟩) hS (fun _ h => ⟨6, by decide, h⟩) (fun _ h => ⟨6, by decide, h⟩) (fun H locs hq_4 _ hk_6 hS => ?_)
  have hP : PW G (stW G q (mkS (v 0) (v 1) (v 2) (fX3_pushFront (v 3) x1) (fX3_pushFront (v 4) x2) (v 5) (v 6) (v 7) (v 8 0) (v 8 1) (v 8 2) (v 8 3) (v 8 4) (v 8 5) (v 8 6) (v 8 7) (v 8 8) (v 8 9) (v 8 10))) H := one_set hP (stD_D hq (mkS (v 0) (v 1) (v 2) (fX3_pushFront (v 3) x1) (v 4) (v 5) (v 6) (v 7) (v 8 0) (v 8 1) (v 8 2) (v 8 3) (v 8 4) (v 8 5) (v 8 6) (v 8 7) (v 8 8) (v 8 9) (v 8 10))) 6 rfl hq_4 hk_6
  refine lv_aload_n hC.1 hC.2.1 dX3_addLine_16 rfl (lv_at hl 0 rfl) ?_
  refine gf (v := .ref (q 7)) hC fwX3 (hKN.go hAL hS) hP 4 rfl rfl 2 (by decide) rfl wd_48 rfl dX3_addLine_17 ?_
  refine lv_iload_n hC.1 hC.2.1 dX3_addLine_20 rfl (lv_at hl 3 rfl) ?_
  refine runE (rS (B := fun U H => PW G (a1W G (q 7) 12 (v 5)) H) (As := [.ref (q 7), .int x3]) (rest := []) hC mwX3_pushFront (c_X3_pushFront l G (q 7) (v 5) x3 (stD_low hq _ ⟨7, by decide, rfl⟩)) wd_532 wd_531 ⟨rfl, rfl⟩ ⟨Nat.le_of_ble_eq_true rfl, Nat.le_of_ble_eq_true rfl⟩ (stb_h (fun H => PW G (a1W G (q 7) 12 (v 5)) H)) (hKN.go hAL hS) (one_of hP 7 rfl) rfl hl.1 rfl (Nat.le_of_ble_eq_true rfl) dX3_addLine_21 ⟨Nat.zero_le _, Nat.zero_le _⟩) hS (fun _ h => ⟨7, by decide, h⟩) (fun _ h => ⟨7, by decide, h⟩) (fun H locs hq_7 _ hk_9 hS => ?_)
  have hP : PW G (stW G q (mkS (v 0) (v 1) (v 2) (fX3_pushFront (v 3) x1) (fX3_pushFront (v 4) x2) (fX3_pushFront (v 5) x3) (v 6) (v 7) (v 8 0) (v 8 1) (v 8 2) (v 8 3) (v 8 4) (v 8 5) (v 8 6) (v 8 7) (v 8 8) (v 8 9) (v 8 10))) H := one_set hP (stD_D hq (mkS (v 0) (v 1) (v 2) (fX3_pushFront (v 3) x1) (fX3_pushFront (v 4) x2) (v 5) (v 6) (v 7) (v 8 0) (v 8 1) (v 8 2) (v 8 3) (v 8 4) (v 8 5) (v 8 6) (v 8 7) (v 8 8) (v 8 9) (v 8 10))) 7 rfl hq_7 hk_9
  refine lv_aload_n hC.1 hC.2.1 dX3_addLine_24 rfl (lv_at hl 0 rfl) ?_
  refine lv_bipush (v := 12) hC.1 hC.2.1 dX3_addLine_25 (by decide +kernel) ?_
  refine lv_aload_n hC.1 hC.2.1 dX3_addLine_27 rfl (lv_at hl 0 rfl) ?_
  refine gf (v := .int (v 8 0)) hC fwX3 (hKN.go hAL hS) hP 4 rfl rfl 3 (by decide) rfl wd_49 rfl dX3_addLine_28 ?_
  refine lv_iconst (v := 1) hC.1 hC.2.1 dX3_addLine_31 (by decide) ?_
  refine lv_iadd hC.1 hC.2.1 dX3_addLine_32 ?_
  refine va_mmin hC.1 hC.2.1 (hC.2.2.2.1.trans hl.1.symm) hC.2.2.2.2.1 (hC.2.2.2.2.2.2.1 _ wd_535) (hC.2.2.2.2.2.2.1 _ wd_35) (hC.2.2.2.2.2.2.1 _ wd_3) (hC.2.2.2.2.2.2.1 _ wd_36) (Nat.le_of_ble_eq_true rfl) (Nat.le_of_ble_eq_true rfl) (Nat.zero_le _) (Nat.zero_le _) dX3_addLine_33 ?_
  refine lv_topi (fun w_10 ew_10 => ?_)
  refine pf (v := .int w_10) (tv := .int) hC fwX3 (hKN.go hAL hS) hP (stD_D hq (mkS (v 0) (v 1) (v 2) (fX3_pushFront (v 3) x1) (fX3_pushFront (v 4) x2) (fX3_pushFront (v 5) x3) (v 6) (v 7) (v 8 0) (v 8 1) (v 8 2) (v 8 3) (v 8 4) (v 8 5) (v 8 6) (v 8 7) (v 8 8) (v 8 9) (v 8 10))) hS 4 rfl rfl 3 (by decide) rfl wd_49 rfl rfl rfl (Nat.le_of_ble_eq_true rfl) dX3_addLine_36 (fun H locs hq_11 hS => ?_)
  have hP : PW G (stW G q (mkS (v 0) (v 1) (v 2) (fX3_pushFront (v 3) x1) (fX3_pushFront (v 4) x2) (fX3_pushFront (v 5) x3) (v 6) (v 7) w_10 (v 8 1) (v 8 2) (v 8 3) (v 8 4) (v 8 5) (v 8 6) (v 8 7) (v 8 8) (v 8 9) (v 8 10))) H := hq_11
  have e_12 : fX3_addLine v x1 x2 x3 = mkS (v 0) (v 1) (v 2) (fX3_pushFront (v 3) x1) (fX3_pushFront (v 4) x2) (fX3_pushFront (v 5) x3) (v 6) (v 7) w_10 (v 8 1) (v 8 2) (v 8 3) (v 8 4) (v 8 5) (v 8 6) (v 8 7) (v 8 8) (v 8 9) (v 8 10) := by subst ew_10; exact rfl
  have hg : fX3_addLine v x1 x2 x3 = mkS (v 0) (v 1) (v 2) (fX3_pushFront (v 3) x1) (fX3_pushFront (v 4) x2) (fX3_pushFront (v 5) x3) (v 6) (v 7) w_10 (v 8 1) (v 8 2) (v 8 3) (v 8 4) (v 8 5) (v 8 6) (v 8 7) (v 8 8) (v 8 9) (v 8 10) := hg.trans (congrArg (fun z => z) e_12)
  exact eE_v hC (by show PW G (stW G q (fX3_addLine v x1 x2 x3)) H; rw [hg]; exact hP) hS dX3_addLine_39
