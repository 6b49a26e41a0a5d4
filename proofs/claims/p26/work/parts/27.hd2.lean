def fX5_darkness (x : HV) : UInt64 := fX4_darkShare (x 0)
def fX5_meanHeat (x : HV) : UInt32 := fX2_mean (x 0)
theorem dX5_darkness_0 : decode cX5_darkness 0 = .ok (.aload_n 0, 1) := by decide +kernel
theorem dX5_darkness_1 : decode cX5_darkness 1 = .ok (.getfield 10, 3) := by decide +kernel
theorem dX5_darkness_4 : decode cX5_darkness 4 = .ok (.getfield 72, 3) := by decide +kernel
theorem dX5_darkness_7 : decode cX5_darkness 7 = .ok (.invokevirtual 228, 3) := by decide +kernel
theorem dX5_darkness_10 : decode cX5_darkness 10 = .ok (.dreturn, 1) := by decide +kernel
set_option maxHeartbeats 1000000 in
set_option maxRecDepth 100000 in
theorem c_X5_darkness (l : Launch) (G : GT) (a : Nat → Nat) (b : Nat → Nat) (x : HV) : Met l yX5_darkness (Cond.code yX5_darkness cX5_darkness 1 (some .double) :: bigW) ({ frames := 1, cells := 0, slots := 0, locals := 20 }) (BP G [.ref (a 0)] (fun U H => PW G (hdW G a b x) H)) (QP (.double (fX5_darkness x))) 0 0 (fun _ => False) := by
  refine met_of (by decide) (Nat.le_of_ble_eq_true rfl) ?_
  intro p e s m below meth c ls hC hKN hB0 hl
  have hP := hB0
  have hl : lv_has ls 1 [(0, .ref (a 0))] := hl
  have hg : fX5_darkness x = fX5_darkness x := rfl
  refine lv_aload_n hC.1 hC.2.1 dX5_darkness_0 rfl (lv_at hl 0 rfl) ?_
  refine gf (v := .ref (a 5)) hC fwX5 hKN hP 0 rfl rfl 0 (by decide) rfl wd_189 rfl dX5_darkness_1 ?_
  refine gfN (v := .ref (sA a 0 8)) hC fwX2 hKN hP 5 rfl rfl 4 (by decide) rfl (nf_16 hKN) rfl dX5_darkness_4 ?_
  refine runP (rV (B := fun U H => PW G (stW G (sA a 0) (x 0)) H) (As := []) (rest := []) hC mwX4_darkShare (c_X4_darkShare l G (sA a 0) (x 0)) iwX4_darkShare wd_382 ⟨rfl, rfl⟩ ⟨Nat.le_of_ble_eq_true rfl, Nat.le_of_ble_eq_true rfl⟩ (stb_h (fun H => PW G (stW G (sA a 0) (x 0)) H)) hKN (hd_st0 (x := x) hP) (va_recv hKN.k (hd_st0 (x := x) hP) (ci := 4) (q0 := 8) rfl rfl) rfl hl.1 rfl (Nat.le_of_ble_eq_true rfl) dX5_darkness_7 ⟨Nat.zero_le _, Nat.zero_le _⟩) ?_
  have e_1 : fX5_darkness x = fX4_darkShare (x 0) := by delta fX5_darkness; exact rfl
  have hg : fX5_darkness x = fX4_darkShare (x 0) := by have e2 := congrArg (fun z => z) e_1; exact hg.trans e2
  exact eP_d hC (congrArg Value.double hg) dX5_darkness_10

theorem dX5_meanHeat_0 : decode cX5_meanHeat 0 = .ok (.aload_n 0, 1) := by decide +kernel
theorem dX5_meanHeat_1 : decode cX5_meanHeat 1 = .ok (.getfield 10, 3) := by decide +kernel
theorem dX5_meanHeat_4 : decode cX5_meanHeat 4 = .ok (.invokevirtual 232, 3) := by decide +kernel
theorem dX5_meanHeat_7 : decode cX5_meanHeat 7 = .ok (.freturn, 1) := by decide +kernel
set_option maxHeartbeats 1000000 in
set_option maxRecDepth 100000 in
theorem c_X5_meanHeat (l : Launch) (G : GT) (a : Nat → Nat) (b : Nat → Nat) (x : HV) : Met l yX5_meanHeat (Cond.code yX5_meanHeat cX5_meanHeat 1 (some .float) :: bigW) ({ frames := 1, cells := 0, slots := 0, locals := 22 }) (BP G [.ref (a 0)] (fun U H => PW G (hdW G a b x) H)) (QP (.float (fX5_meanHeat x))) 0 0 (fun _ => False) := by
  refine met_of (by decide) (Nat.le_of_ble_eq_true rfl) ?_
  intro p e s m below meth c ls hC hKN hB0 hl
  have hP := hB0
  have hl : lv_has ls 1 [(0, .ref (a 0))] := hl
  have hg : fX5_meanHeat x = fX5_meanHeat x := rfl
  refine lv_aload_n hC.1 hC.2.1 dX5_meanHeat_0 rfl (lv_at hl 0 rfl) ?_
  refine gf (v := .ref (a 5)) hC fwX5 hKN hP 0 rfl rfl 0 (by decide) rfl wd_189 rfl dX5_meanHeat_1 ?_
  refine runP (rV (B := fun U H => PW G (stW G (sA a 0) (x 0)) H) (As := []) (rest := []) hC mwX2_mean (c_X2_mean l G (sA a 0) (x 0)) iwX2_mean wd_390 ⟨rfl, rfl⟩ ⟨Nat.le_of_ble_eq_true rfl, Nat.le_of_ble_eq_true rfl⟩ (stb_h (fun H => PW G (stW G (sA a 0) (x 0)) H)) hKN (hd_st0 (x := x) hP) (va_recv hKN.k (hd_st0 (x := x) hP) (ci := 2) (q0 := 0) rfl rfl) rfl hl.1 rfl (Nat.le_of_ble_eq_true rfl) dX5_meanHeat_4 ⟨Nat.zero_le _, Nat.zero_le _⟩) ?_
  have e_1 : fX5_meanHeat x = fX2_mean (x 0) := by delta fX5_meanHeat; exact rfl
  have hg : fX5_meanHeat x = fX2_mean (x 0) := by have e2 := congrArg (fun z => z) e_1; exact hg.trans e2
  exact eP_f hC (congrArg Value.float hg) dX5_meanHeat_7
