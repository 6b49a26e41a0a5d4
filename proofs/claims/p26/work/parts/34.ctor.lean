theorem dX0_init_0 : decode cX0_init 0 = .ok (.aload_n 0, 1) := by decide +kernel
theorem dX0_init_1 : decode cX0_init 1 = .ok (.invokespecial 1, 3) := by decide +kernel
theorem dX0_init_4 : decode cX0_init 4 = .ok (.aload_n 0, 1) := by decide +kernel
theorem dX0_init_5 : decode cX0_init 5 = .ok (.bipush 60, 2) := by decide +kernel
theorem dX0_init_7 : decode cX0_init 7 = .ok (.newarray .int, 2) := by decide +kernel
theorem dX0_init_9 : decode cX0_init 9 = .ok (.putfield 9, 3) := by decide +kernel
theorem dX0_init_12 : decode cX0_init 12 = .ok (.aload_n 0, 1) := by decide +kernel
theorem dX0_init_13 : decode cX0_init 13 = .ok (.iconst 0, 1) := by decide +kernel
theorem dX0_init_14 : decode cX0_init 14 = .ok (.putfield 13, 3) := by decide +kernel
theorem dX0_init_17 : decode cX0_init 17 = .ok (.return_, 1) := by decide +kernel
set_option maxHeartbeats 4000000 in
set_option maxRecDepth 100000 in
theorem c_X0_init (l : Launch) (G : GT) (q N : Nat) (hlow : gL G ≤ q) : Met l yX0_init (Cond.code yX0_init cX0_init 1 none :: bigW) ({ frames := 1, cells := 1, slots := 60, locals := 14 }) (BP G [.ref q] (fun _ H => H.size = N ∧ PW G [(q, .inr (0, [.null, .int 0]))] H)) (QE none (fun H => ∃ z7, PW G [(q, .inr (0, [.ref z7, .int 0])), (z7, .inl (gI G, 60, .inl (fun _ => 0)))] H ∧ va_D (va_A [(q, .inr (0, [.null, .int 0]))] N) [(q, .inr (0, [.ref z7, .int 0])), (z7, .inl (gI G, 60, .inl (fun _ => 0)))]) (va_A [(q, .inr (0, [.null, .int 0]))] N)) 1 60 (va_A [(q, .inr (0, [.null, .int 0]))] N) := by
  refine met_of (by decide) (Nat.le_of_ble_eq_true rfl) ?_
  intro p e s m below meth c ls hC hKN hB0 hl
  obtain ⟨hN, hP⟩ := hB0
  have hl : lv_has ls 1 [(0, .ref q)] := hl
  obtain ⟨A, hAe⟩ : ∃ A, A = (va_A [(q, .inr (0, [.null, .int 0]))] N) := ⟨_, rfl⟩
  have hD : va_D A [(q, .inr (0, [.null, .int 0]))] := hAe ▸ mk_D
  have hS : va_S A s.heap s.heap [] := va_S.rf
  have hAL := mk_low hAe hlow (hN ▸ hKN.1.2)
  have hAs : ∀ z, s.heap.size ≤ z → A z := fun z h => by rw [hAe]; exact Or.inr (hN ▸ h)
  rw [show (va_A [(q, .inr (0, [.null, .int 0]))] N) = A from hAe.symm]
  refine lv_aload_n hC.1 hC.2.1 dX0_init_0 rfl (lv_at hl 0 rfl) ?_
  refine oI hC wd_142 hl.1 dX0_init_1 (by decide) (Nat.le_of_ble_eq_true rfl) ?_
  refine lv_aload_n hC.1 hC.2.1 dX0_init_4 rfl (lv_at hl 0 rfl) ?_
  refine lv_bipush (v := 60) hC.1 hC.2.1 dX0_init_5 (by decide +kernel) ?_
  refine nwI hC (hKN.go hAL hS) hP hD hS hAs 60 rfl (by decide) (Nat.le_of_ble_eq_true rfl) (Nat.le_of_ble_eq_true rfl) dX0_init_7 (fun z7 H1 hP1 hD1 hS => ?_)
  have hP : PW G [(q, .inr (0, [.null, .int 0])), (z7, .inl (gI G, 60, .inl (fun _ => 0)))] H1 := hP1
  have hD : va_D A [(q, .inr (0, [.null, .int 0])), (z7, .inl (gI G, 60, .inl (fun _ => 0)))] := hD1
  refine pfF (v := .ref z7) (tv := .array .int) hC fwX0 (hKN.go hAL hS) hP hD hS 0 rfl rfl 0 (by decide) rfl rfl rfl wd_143 rfl rfl rfl (Nat.le_of_ble_eq_true rfl) dX0_init_9 (fun H2 locs hP1 hS => ?_)
  have hP : PW G [(q, .inr (0, [.ref z7, .int 0])), (z7, .inl (gI G, 60, .inl (fun _ => 0)))] H2 := hP1
  have hD : va_D A [(q, .inr (0, [.ref z7, .int 0])), (z7, .inl (gI G, 60, .inl (fun _ => 0)))] := va_D_fst hD rfl
  refine lv_aload_n hC.1 hC.2.1 dX0_init_12 rfl (lv_at hl 0 rfl) ?_
  refine lv_iconst (v := 0) hC.1 hC.2.1 dX0_init_13 (by decide) ?_
  refine pf (v := .int 0) (tv := .int) hC fwX0 (hKN.go hAL hS) hP hD hS 0 rfl rfl 1 (by decide) rfl wd_144 rfl rfl rfl (Nat.le_of_ble_eq_true rfl) dX0_init_14 (fun H3 locs hP1 hS => ?_)
  have hP : PW G [(q, .inr (0, [.ref z7, .int 0])), (z7, .inl (gI G, 60, .inl (fun _ => 0)))] H3 := hP1
  have hD : va_D A [(q, .inr (0, [.ref z7, .int 0])), (z7, .inl (gI G, 60, .inl (fun _ => 0)))] := va_D_fst hD rfl
  exact eE_v hC ⟨z7, hP, hAe ▸ hD⟩ hS dX0_init_17

theorem dX1_init_0 : decode cX1_init 0 = .ok (.aload_n 0, 1) := by decide +kernel
theorem dX1_init_1 : decode cX1_init 1 = .ok (.invokespecial 3, 3) := by decide +kernel
theorem dX1_init_4 : decode cX1_init 4 = .ok (.aload_n 0, 1) := by decide +kernel
theorem dX1_init_5 : decode cX1_init 5 = .ok (.ldc 9, 2) := by decide +kernel
theorem dX1_init_7 : decode cX1_init 7 = .ok (.putfield 11, 3) := by decide +kernel
theorem dX1_init_10 : decode cX1_init 10 = .ok (.aload_n 0, 1) := by decide +kernel
theorem dX1_init_11 : decode cX1_init 11 = .ok (.iconst 0, 1) := by decide +kernel
theorem dX1_init_12 : decode cX1_init 12 = .ok (.putfield 17, 3) := by decide +kernel
theorem dX1_init_15 : decode cX1_init 15 = .ok (.aload_n 0, 1) := by decide +kernel
theorem dX1_init_16 : decode cX1_init 16 = .ok (.iconst 0, 1) := by decide +kernel
theorem dX1_init_17 : decode cX1_init 17 = .ok (.putfield 21, 3) := by decide +kernel
theorem dX1_init_20 : decode cX1_init 20 = .ok (.aload_n 0, 1) := by decide +kernel
theorem dX1_init_21 : decode cX1_init 21 = .ok (.iconst 0, 1) := by decide +kernel
theorem dX1_init_22 : decode cX1_init 22 = .ok (.putfield 24, 3) := by decide +kernel
theorem dX1_init_25 : decode cX1_init 25 = .ok (.aload_n 0, 1) := by decide +kernel
theorem dX1_init_26 : decode cX1_init 26 = .ok (.iconst 0, 1) := by decide +kernel
theorem dX1_init_27 : decode cX1_init 27 = .ok (.putfield 27, 3) := by decide +kernel
theorem dX1_init_30 : decode cX1_init 30 = .ok (.aload_n 0, 1) := by decide +kernel
theorem dX1_init_31 : decode cX1_init 31 = .ok (.iconst 0, 1) := by decide +kernel
theorem dX1_init_32 : decode cX1_init 32 = .ok (.putfield 30, 3) := by decide +kernel
theorem dX1_init_35 : decode cX1_init 35 = .ok (.aload_n 0, 1) := by decide +kernel
theorem dX1_init_36 : decode cX1_init 36 = .ok (.iconst 0, 1) := by decide +kernel
theorem dX1_init_37 : decode cX1_init 37 = .ok (.putfield 33, 3) := by decide +kernel
theorem dX1_init_40 : decode cX1_init 40 = .ok (.aload_n 0, 1) := by decide +kernel
theorem dX1_init_41 : decode cX1_init 41 = .ok (.iconst 0, 1) := by decide +kernel
theorem dX1_init_42 : decode cX1_init 42 = .ok (.putfield 36, 3) := by decide +kernel
theorem dX1_init_45 : decode cX1_init 45 = .ok (.aload_n 0, 1) := by decide +kernel
theorem dX1_init_46 : decode cX1_init 46 = .ok (.iconst 0, 1) := by decide +kernel
theorem dX1_init_47 : decode cX1_init 47 = .ok (.putfield 39, 3) := by decide +kernel
theorem dX1_init_50 : decode cX1_init 50 = .ok (.aload_n 0, 1) := by decide +kernel
theorem dX1_init_51 : decode cX1_init 51 = .ok (.iconst 0, 1) := by decide +kernel
theorem dX1_init_52 : decode cX1_init 52 = .ok (.putfield 42, 3) := by decide +kernel
theorem dX1_init_55 : decode cX1_init 55 = .ok (.return_, 1) := by decide +kernel
set_option maxHeartbeats 4000000 in
set_option maxRecDepth 100000 in
theorem c_X1_init (l : Launch) (G : GT) (q N : Nat) (hlow : gL G ≤ q) : Met l yX1_init (Cond.code yX1_init cX1_init 1 none :: bigW) ({ frames := 1, cells := 0, slots := 0, locals := 14 }) (BP G [.ref q] (fun _ H => H.size = N ∧ PW G [(q, .inr (1, [.int 0, .int 0, .null, .int 0, .int 0, .int 0, .int 0, .int 0, .int 0, .int 0]))] H)) (QE none (fun H => PW G [(q, .inr (1, [.int 0, .int 0, .ref (gA G (10 + 0)), .int 0, .int 0, .int 0, .int 0, .int 0, .int 0, .int 0]))] H ∧ va_D (va_A [(q, .inr (1, [.int 0, .int 0, .null, .int 0, .int 0, .int 0, .int 0, .int 0, .int 0, .int 0]))] N) [(q, .inr (1, [.int 0, .int 0, .ref (gA G (10 + 0)), .int 0, .int 0, .int 0, .int 0, .int 0, .int 0, .int 0]))]) (va_A [(q, .inr (1, [.int 0, .int 0, .null, .int 0, .int 0, .int 0, .int 0, .int 0, .int 0, .int 0]))] N)) 0 0 (va_A [(q, .inr (1, [.int 0, .int 0, .null, .int 0, .int 0, .int 0, .int 0, .int 0, .int 0, .int 0]))] N) := by
  refine met_of (by decide) (Nat.le_of_ble_eq_true rfl) ?_
  intro p e s m below meth c ls hC hKN hB0 hl
  obtain ⟨hN, hP⟩ := hB0
  have hl : lv_has ls 1 [(0, .ref q)] := hl
  obtain ⟨A, hAe⟩ : ∃ A, A = (va_A [(q, .inr (1, [.int 0, .int 0, .null, .int 0, .int 0, .int 0, .int 0, .int 0, .int 0, .int 0]))] N) := ⟨_, rfl⟩
  have hD : va_D A [(q, .inr (1, [.int 0, .int 0, .null, .int 0, .int 0, .int 0, .int 0, .int 0, .int 0, .int 0]))] := hAe ▸ mk_D
  have hS : va_S A s.heap s.heap [] := va_S.rf
  have hAL := mk_low hAe hlow (hN ▸ hKN.1.2)
  have hAs : ∀ z, s.heap.size ≤ z → A z := fun z h => by rw [hAe]; exact Or.inr (hN ▸ h)
  rw [show (va_A [(q, .inr (1, [.int 0, .int 0, .null, .int 0, .int 0, .int 0, .int 0, .int 0, .int 0, .int 0]))] N) = A from hAe.symm]
  refine lv_aload_n hC.1 hC.2.1 dX1_init_0 rfl (lv_at hl 0 rfl) ?_
  refine oI hC wd_155 hl.1 dX1_init_1 (by decide) (Nat.le_of_ble_eq_true rfl) ?_
  refine lv_aload_n hC.1 hC.2.1 dX1_init_4 rfl (lv_at hl 0 rfl) ?_
  refine va_ldcS hC.1 hC.2.1 hC.2.2.2.2.1 ((hKN.go hAL hS).str 0 (by decide)) dX1_init_5 ?_
  refine pf (v := .ref (gA G (10 + 0))) (tv := .object "java/lang/String") hC fwX1 (hKN.go hAL hS) hP hD hS 0 rfl rfl 2 (by decide) rfl wd_159 rfl rfl rfl (Nat.le_of_ble_eq_true rfl) dX1_init_7 (fun H1 locs hP1 hS => ?_)
  have hP : PW G [(q, .inr (1, [.int 0, .int 0, .ref (gA G (10 + 0)), .int 0, .int 0, .int 0, .int 0, .int 0, .int 0, .int 0]))] H1 := hP1
  have hD : va_D A [(q, .inr (1, [.int 0, .int 0, .ref (gA G (10 + 0)), .int 0, .int 0, .int 0, .int 0, .int 0, .int 0, .int 0]))] := va_D_fst hD rfl
  refine lv_aload_n hC.1 hC.2.1 dX1_init_10 rfl (lv_at hl 0 rfl) ?_
  refine lv_iconst (v := 0) hC.1 hC.2.1 dX1_init_11 (by decide) ?_
  refine pf (v := .int 0) (tv := .int) hC fwX1 (hKN.go hAL hS) hP hD hS 0 rfl rfl 3 (by decide) rfl wd_160 rfl rfl rfl (Nat.le_of_ble_eq_true rfl) dX1_init_12 (fun H2 locs hP1 hS => ?_)
  have hP : PW G [(q, .inr (1, [.int 0, .int 0, .ref (gA G (10 + 0)), .int 0, .int 0, .int 0, .int 0, .int 0, .int 0, .int 0]))] H2 := hP1
  have hD : va_D A [(q, .inr (1, [.int 0, .int 0, .ref (gA G (10 + 0)), .int 0, .int 0, .int 0, .int 0, .int 0, .int 0, .int 0]))] := va_D_fst hD rfl
  refine lv_aload_n hC.1 hC.2.1 dX1_init_15 rfl (lv_at hl 0 rfl) ?_
  refine lv_iconst (v := 0) hC.1 hC.2.1 dX1_init_16 (by decide) ?_
  refine pf (v := .int 0) (tv := .int) hC fwX1 (hKN.go hAL hS) hP hD hS 0 rfl rfl 0 (by decide) rfl wd_157 rfl rfl rfl (Nat.le_of_ble_eq_true rfl) dX1_init_17 (fun H3 locs hP1 hS => ?_)
  have hP : PW G [(q, .inr (1, [.int 0, .int 0, .ref (gA G (10 + 0)), .int 0, .int 0, .int 0, .int 0, .int 0, .int 0, .int 0]))] H3 := hP1
  have hD : va_D A [(q, .inr (1, [.int 0, .int 0, .ref (gA G (10 + 0)), .int 0, .int 0, .int 0, .int 0, .int 0, .int 0, .int 0]))] := va_D_fst hD rfl
  refine lv_aload_n hC.1 hC.2.1 dX1_init_20 rfl (lv_at hl 0 rfl) ?_
  refine lv_iconst (v := 0) hC.1 hC.2.1 dX1_init_21 (by decide) ?_
  refine pf (v := .int 0) (tv := .int) hC fwX1 (hKN.go hAL hS) hP hD hS 0 rfl rfl 1 (by decide) rfl wd_158 rfl rfl rfl (Nat.le_of_ble_eq_true rfl) dX1_init_22 (fun H4 locs hP1 hS => ?_)
  have hP : PW G [(q, .inr (1, [.int 0, .int 0, .ref (gA G (10 + 0)), .int 0, .int 0, .int 0, .int 0, .int 0, .int 0, .int 0]))] H4 := hP1
  have hD : va_D A [(q, .inr (1, [.int 0, .int 0, .ref (gA G (10 + 0)), .int 0, .int 0, .int 0, .int 0, .int 0, .int 0, .int 0]))] := va_D_fst hD rfl
  refine lv_aload_n hC.1 hC.2.1 dX1_init_25 rfl (lv_at hl 0 rfl) ?_
  refine lv_iconst (v := 0) hC.1 hC.2.1 dX1_init_26 (by decide) ?_
  refine pf (v := .int 0) (tv := .int) hC fwX1 (hKN.go hAL hS) hP hD hS 0 rfl rfl 4 (by decide) rfl wd_161 rfl rfl rfl (Nat.le_of_ble_eq_true rfl) dX1_init_27 (fun H5 locs hP1 hS => ?_)
  have hP : PW G [(q, .inr (1, [.int 0, .int 0, .ref (gA G (10 + 0)), .int 0, .int 0, .int 0, .int 0, .int 0, .int 0, .int 0]))] H5 := hP1
  have hD : va_D A [(q, .inr (1, [.int 0, .int 0, .ref (gA G (10 + 0)), .int 0, .int 0, .int 0, .int 0, .int 0, .int 0, .int 0]))] := va_D_fst hD rfl
  refine lv_aload_n hC.1 hC.2.1 dX1_init_30 rfl (lv_at hl 0 rfl) ?_
  refine lv_iconst (v := 0) hC.1 hC.2.1 dX1_init_31 (by decide) ?_
  refine pf (v := .int 0) (tv := .int) hC fwX1 (hKN.go hAL hS) hP hD hS 0 rfl rfl 5 (by decide) rfl wd_162 rfl rfl rfl (Nat.le_of_ble_eq_true rfl) dX1_init_32 (fun H6 locs hP1 hS => ?_)
  have hP : PW G [(q, .inr (1, [.int 0, .int 0, .ref (gA G (10 + 0)), .int 0, .int 0, .int 0, .int 0, .int 0, .int 0, .int 0]))] H6 := hP1
  have hD : va_D A [(q, .inr (1, [.int 0, .int 0, .ref (gA G (10 + 0)), .int 0, .int 0, .int 0, .int 0, .int 0, .int 0, .int 0]))] := va_D_fst hD rfl
  refine lv_aload_n hC.1 hC.2.1 dX1_init_35 rfl (lv_at hl 0 rfl) ?_
  refine lv_iconst (v := 0) hC.1 hC.2.1 dX1_init_36 (by decide) ?_
  refine pf (v := .int 0) (tv := .int) hC fwX1 (hKN.go hAL hS) hP hD hS 0 rfl rfl 6 (by decide) rfl wd_163 rfl rfl rfl (Nat.le_of_ble_eq_true rfl) dX1_init_37 (fun H7 locs hP1 hS => ?_)
  have hP : PW G [(q, .inr (1, [.int 0, .int 0, .ref (gA G (10 + 0)), .int 0, .int 0, .int 0, .int 0, .int 0, .int 0, .int 0]))] H7 := hP1
  have hD : va_D A [(q, .inr (1, [.int 0, .int 0, .ref (gA G (10 + 0)), .int 0, .int 0, .int 0, .int 0, .int 0, .int 0, .int 0]))] := va_D_fst hD rfl
  refine lv_aload_n hC.1 hC.2.1 dX1_init_40 rfl (lv_at hl 0 rfl) ?_
  refine lv_iconst (v := 0) hC.1 hC.2.1 dX1_init_41 (by decide) ?_
  refine pf (v := .int 0) (tv := .int) hC fwX1 (hKN.go hAL hS) hP hD hS 0 rfl rfl 7 (by decide) rfl wd_164 rfl rfl rfl (Nat.le_of_ble_eq_true rfl) dX1_init_42 (fun H8 locs hP1 hS => ?_)
  have hP : PW G [(q, .inr (1, [.int 0, .int 0, .ref (gA G (10 + 0)), .int 0, .int 0, .int 0, .int 0, .int 0, .int 0, .int 0]))] H8 := hP1
  have hD : va_D A [(q, .inr (1, [.int 0, .int 0, .ref (gA G (10 + 0)), .int 0, .int 0, .int 0, .int 0, .int 0, .int 0, .int 0]))] := va_D_fst hD rfl
  refine lv_aload_n hC.1 hC.2.1 dX1_init_45 rfl (lv_at hl 0 rfl) ?_
  refine lv_iconst (v := 0) hC.1 hC.2.1 dX1_init_46 (by decide) ?_
  refine pf (v := .int 0) (tv := .int) hC fwX1 (hKN.go hAL hS) hP hD hS 0 rfl rfl 8 (by decide) rfl wd_165 rfl rfl rfl (Nat.le_of_ble_eq_true rfl) dX1_init_47 (fun H9 locs hP1 hS => ?_)
  have hP : PW G [(q, .inr (1, [.int 0, .int 0, .ref (gA G (10 + 0)), .int 0, .int 0, .int 0, .int 0, .int 0, .int 0, .int 0]))] H9 := hP1
  have hD : va_D A [(q, .inr (1, [.int 0, .int 0, .ref (gA G (10 + 0)), .int 0, .int 0, .int 0, .int 0, .int 0, .int 0, .int 0]))] := va_D_fst hD rfl
  refine lv_aload_n hC.1 hC.2.1 dX1_init_50 rfl (lv_at hl 0 rfl) ?_
  refine lv_iconst (v := 0) hC.1 hC.2.1 dX1_init_51 (by decide) ?_
  refine pf (v := .int 0) (tv := .int) hC fwX1 (hKN.go hAL hS) hP hD hS 0 rfl rfl 9 (by decide) rfl wd_166 rfl rfl rfl (Nat.le_of_ble_eq_true rfl) dX1_init_52 (fun H10 locs hP1 hS => ?_)
  have hP : PW G [(q, .inr (1, [.int 0, .int 0, .ref (gA G (10 + 0)), .int 0, .int 0, .int 0, .int 0, .int 0, .int 0, .int 0]))] H10 := hP1
  have hD : va_D A [(q, .inr (1, [.int 0, .int 0, .ref (gA G (10 + 0)), .int 0, .int 0, .int 0, .int 0, .int 0, .int 0, .int 0]))] := va_D_fst hD rfl
  exact eE_v hC ⟨hP, hAe ▸ hD⟩ hS dX1_init_55

theorem dX3_init_0 : decode cX3_init 0 = .ok (.aload_n 0, 1) := by decide +kernel
theorem dX3_init_1 : decode cX3_init 1 = .ok (.invokespecial 3, 3) := by decide +kernel
theorem dX3_init_4 : decode cX3_init 4 = .ok (.aload_n 0, 1) := by decide +kernel
theorem dX3_init_5 : decode cX3_init 5 = .ok (.bipush 12, 2) := by decide +kernel
theorem dX3_init_7 : decode cX3_init 7 = .ok (.newarray .int, 2) := by decide +kernel
theorem dX3_init_9 : decode cX3_init 9 = .ok (.putfield 11, 3) := by decide +kernel
theorem dX3_init_12 : decode cX3_init 12 = .ok (.aload_n 0, 1) := by decide +kernel
theorem dX3_init_13 : decode cX3_init 13 = .ok (.bipush 12, 2) := by decide +kernel
theorem dX3_init_15 : decode cX3_init 15 = .ok (.newarray .int, 2) := by decide +kernel
theorem dX3_init_17 : decode cX3_init 17 = .ok (.putfield 15, 3) := by decide +kernel
theorem dX3_init_20 : decode cX3_init 20 = .ok (.aload_n 0, 1) := by decide +kernel
theorem dX3_init_21 : decode cX3_init 21 = .ok (.bipush 12, 2) := by decide +kernel
theorem dX3_init_23 : decode cX3_init 23 = .ok (.newarray .int, 2) := by decide +kernel
theorem dX3_init_25 : decode cX3_init 25 = .ok (.putfield 18, 3) := by decide +kernel
theorem dX3_init_28 : decode cX3_init 28 = .ok (.aload_n 0, 1) := by decide +kernel
theorem dX3_init_29 : decode cX3_init 29 = .ok (.iconst 0, 1) := by decide +kernel
theorem dX3_init_30 : decode cX3_init 30 = .ok (.putfield 21, 3) := by decide +kernel
theorem dX3_init_33 : decode cX3_init 33 = .ok (.return_, 1) := by decide +kernel
set_option maxHeartbeats 4000000 in
set_option maxRecDepth 100000 in
theorem c_X3_init (l : Launch) (G : GT) (q N : Nat) (hlow : gL G ≤ q) : Met l yX3_init (Cond.code yX3_init cX3_init 1 none :: bigW) ({ frames := 1, cells := 3, slots := 36, locals := 14 }) (BP G [.ref q] (fun _ H => H.size = N ∧ PW G [(q, .inr (3, [.null, .null, .null, .int 0]))] H)) (QE none (fun H => ∃ z7, ∃ z15, ∃ z23, PW G [(q, .inr (3, [.ref z7, .ref z15, .ref z23, .int 0])), (z7, .inl (gI G, 12, .inl (fun _ => 0))), (z15, .inl (gI G, 12, .inl (fun _ => 0))), (z23, .inl (gI G, 12, .inl (fun _ => 0)))] H ∧ va_D (va_A [(q, .inr (3, [.null, .null, .null, .int 0]))] N) [(q, .inr (3, [.ref z7, .ref z15, .ref z23, .int 0])), (z7, .inl (gI G, 12, .inl (fun _ => 0))), (z15, .inl (gI G, 12, .inl (fun _ => 0))), (z23, .inl (gI G, 12, .inl (fun _ => 0)))]) (va_A [(q, .inr (3, [.null, .null, .null, .int 0]))] N)) 3 36 (va_A [(q, .inr (3, [.null, .null, .null, .int 0]))] N) := by
  refine met_of (by decide) (Nat.le_of_ble_eq_true rfl) ?_
  intro p e s m below meth c ls hC hKN hB0 hl
  obtain ⟨hN, hP⟩ := hB0
  have hl : lv_has ls 1 [(0, .ref q)] := hl
  obtain ⟨A, hAe⟩ : ∃ A, A = (va_A [(q, .inr (3, [.null, .null, .null, .int 0]))] N) := ⟨_, rfl⟩
  have hD : va_D A [(q, .inr (3, [.null, .null, .null, .int 0]))] := hAe ▸ mk_D
  have hS : va_S A s.heap s.heap [] := va_S.rf
  have hAL := mk_low hAe hlow (hN ▸ hKN.1.2)
  have hAs : ∀ z, s.heap.size ≤ z → A z := fun z h => by rw [hAe]; exact Or.inr (hN ▸ h)
  rw [show (va_A [(q, .inr (3, [.null, .null, .null, .int 0]))] N) = A from hAe.symm]
  refine lv_aload_n hC.1 hC.2.1 dX3_init_0 rfl (lv_at hl 0 rfl) ?_
  refine oI hC wd_45 hl.1 dX3_init_1 (by decide) (Nat.le_of_ble_eq_true rfl) ?_
  refine lv_aload_n hC.1 hC.2.1 dX3_init_4 rfl (lv_at hl 0 rfl) ?_
  refine lv_bipush (v := 12) hC.1 hC.2.1 dX3_init_5 (by decide +kernel) ?_
  refine nwI hC (hKN.go hAL hS) hP hD hS hAs 12 rfl (by decide) (Nat.le_of_ble_eq_true rfl) (Nat.le_of_ble_eq_true rfl) dX3_init_7 (fun z7 H1 hP1 hD1 hS => ?_)
  have hP : PW G [(q, .inr (3, [.null, .null, .null, .int 0])), (z7, .inl (gI G, 12, .inl (fun _ => 0)))] H1 := hP1
  have hD : va_D A [(q, .inr (3, [.null, .null, .null, .int 0])), (z7, .inl (gI G, 12, .inl (fun _ => 0)))] := hD1
  refine pfF (v := .ref z7) (tv := .array .int) hC fwX3 (hKN.go hAL hS) hP hD hS 0 rfl rfl 0 (by decide) rfl rfl rfl wd_46 rfl rfl rfl (Nat.le_of_ble_eq_true rfl) dX3_init_9 (fun H2 locs hP1 hS => ?_)
  have hP : PW G [(q, .inr (3, [.ref z7, .null, .null, .int 0])), (z7, .inl (gI G, 12, .inl (fun _ => 0)))] H2 := hP1
  have hD : va_D A [(q, .inr (3, [.ref z7, .null, .null, .int 0])), (z7, .inl (gI G, 12, .inl (fun _ => 0)))] := va_D_fst hD rfl
  refine lv_aload_n hC.1 hC.2.1 dX3_init_12 rfl (lv_at hl 0 rfl) ?_
  refine lv_bipush (v := 12) hC.1 hC.2.1 dX3_init_13 (by decide +kernel) ?_
  refine nwI hC (hKN.go hAL hS) hP hD hS hAs 12 rfl (by decide) (Nat.le_of_ble_eq_true rfl) (Nat.le_of_ble_eq_true rfl) dX3_init_15 (fun z15 H3 hP1 hD1 hS => ?_)
  have hP : PW G [(q, .inr (3, [.ref z7, .null, .null, .int 0])), (z7, .inl (gI G, 12, .inl (fun _ => 0))), (z15, .inl (gI G, 12, .inl (fun _ => 0)))] H3 := hP1
  have hD : va_D A [(q, .inr (3, [.ref z7, .null, .null, .int 0])), (z7, .inl (gI G, 12, .inl (fun _ => 0))), (z15, .inl (gI G, 12, .inl (fun _ => 0)))] := hD1
  refine pfF (v := .ref z15) (tv := .array .int) hC fwX3 (hKN.go hAL hS) hP hD hS 0 rfl rfl 1 (by decide) rfl rfl rfl wd_47 rfl rfl rfl (Nat.le_of_ble_eq_true rfl) dX3_init_17 (fun H4 locs hP1 hS => ?_)
  have hP : PW G [(q, .inr (3, [.ref z7, .ref z15, .null, .int 0])), (z7, .inl (gI G, 12, .inl (fun _ => 0))), (z15, .inl (gI G, 12, .inl (fun _ => 0)))] H4 := hP1
  have hD : va_D A [(q, .inr (3, [.ref z7, .ref z15, .null, .int 0])), (z7, .inl (gI G, 12, .inl (fun _ => 0))), (z15, .inl (gI G, 12, .inl (fun _ => 0)))] := va_D_fst hD rfl
  refine lv_aload_n hC.1 hC.2.1 dX3_init_20 rfl (lv_at hl 0 rfl) ?_
  refine lv_bipush (v := 12) hC.1 hC.2.1 dX3_init_21 (by decide +kernel) ?_
  refine nwI hC (hKN.go hAL hS) hP hD hS hAs 12 rfl (by decide) (Nat.le_of_ble_eq_true rfl) (Nat.le_of_ble_eq_true rfl) dX3_init_23 (fun z23 H5 hP1 hD1 hS => ?_)
  have hP : PW G [(q, .inr (3, [.ref z7, .ref z15, .null, .int 0])), (z7, .inl (gI G, 12, .inl (fun _ => 0))), (z15, .inl (gI G, 12, .inl (fun _ => 0))), (z23, .inl (gI G, 12, .inl (fun _ => 0)))] H5 := hP1
  have hD : va_D A [(q, .inr (3, [.ref z7, .ref z15, .null, .int 0])), (z7, .inl (gI G, 12, .inl (fun _ => 0))), (z15, .inl (gI G, 12, .inl (fun _ => 0))), (z23, .inl (gI G, 12, .inl (fun _ => 0)))] := hD1
  refine pfF (v := .ref z23) (tv := .array .int) hC fwX3 (hKN.go hAL hS) hP hD hS 0 rfl rfl 2 (by decide) rfl rfl rfl wd_48 rfl rfl rfl (Nat.le_of_ble_eq_true rfl) dX3_init_25 (fun H6 locs hP1 hS => ?_)
  have hP : PW G [(q, .inr (3, [.ref z7, .ref z15, .ref z23, .int 0])), (z7, .inl (gI G, 12, .inl (fun _ => 0))), (z15, .inl (gI G, 12, .inl (fun _ => 0))), (z23, .inl (gI G, 12, .inl (fun _ => 0)))] H6 := hP1
  have hD : va_D A [(q, .inr (3, [.ref z7, .ref z15, .ref z23, .int 0])), (z7, .inl (gI G, 12, .inl (fun _ => 0))), (z15, .inl (gI G, 12, .inl (fun _ => 0))), (z23, .inl (gI G, 12, .inl (fun _ => 0)))] := va_D_fst hD rfl
  refine lv_aload_n hC.1 hC.2.1 dX3_init_28 rfl (lv_at hl 0 rfl) ?_
  refine lv_iconst (v := 0) hC.1 hC.2.1 dX3_init_29 (by decide) ?_
  refine pf (v := .int 0) (tv := .int) hC fwX3 (hKN.go hAL hS) hP hD hS 0 rfl rfl 3 (by decide) rfl wd_49 rfl rfl rfl (Nat.le_of_ble_eq_true rfl) dX3_init_30 (fun H7 locs hP1 hS => ?_)
  have hP : PW G [(q, .inr (3, [.ref z7, .ref z15, .ref z23, .int 0])), (z7, .inl (gI G, 12, .inl (fun _ => 0))), (z15, .inl (gI G, 12, .inl (fun _ => 0))), (z23, .inl (gI G, 12, .inl (fun _ => 0)))] H7 := hP1
  have hD : va_D A [(q, .inr (3, [.ref z7, .ref z15, .ref z23, .int 0])), (z7, .inl (gI G, 12, .inl (fun _ => 0))), (z15, .inl (gI G, 12, .inl (fun _ => 0))), (z23, .inl (gI G, 12, .inl (fun _ => 0)))] := va_D_fst hD rfl
  exact eE_v hC ⟨z7, z15, z23, hP, hAe ▸ hD⟩ hS dX3_init_33

theorem dX4_init_0 : decode cX4_init 0 = .ok (.aload_n 0, 1) := by decide +kernel
theorem dX4_init_1 : decode cX4_init 1 = .ok (.invokespecial 3, 3) := by decide +kernel
theorem dX4_init_4 : decode cX4_init 4 = .ok (.aload_n 0, 1) := by decide +kernel
theorem dX4_init_5 : decode cX4_init 5 = .ok (.bipush 24, 2) := by decide +kernel
theorem dX4_init_7 : decode cX4_init 7 = .ok (.newarray .int, 2) := by decide +kernel
theorem dX4_init_9 : decode cX4_init 9 = .ok (.putfield 9, 3) := by decide +kernel
theorem dX4_init_12 : decode cX4_init 12 = .ok (.aload_n 0, 1) := by decide +kernel
theorem dX4_init_13 : decode cX4_init 13 = .ok (.bipush 24, 2) := by decide +kernel
theorem dX4_init_15 : decode cX4_init 15 = .ok (.newarray .int, 2) := by decide +kernel
theorem dX4_init_17 : decode cX4_init 17 = .ok (.putfield 15, 3) := by decide +kernel
theorem dX4_init_20 : decode cX4_init 20 = .ok (.aload_n 0, 1) := by decide +kernel
theorem dX4_init_21 : decode cX4_init 21 = .ok (.iconst 0, 1) := by decide +kernel
theorem dX4_init_22 : decode cX4_init 22 = .ok (.putfield 18, 3) := by decide +kernel
theorem dX4_init_25 : decode cX4_init 25 = .ok (.aload_n 0, 1) := by decide +kernel
theorem dX4_init_26 : decode cX4_init 26 = .ok (.iconst 0, 1) := by decide +kernel
theorem dX4_init_27 : decode cX4_init 27 = .ok (.putfield 22, 3) := by decide +kernel
theorem dX4_init_30 : decode cX4_init 30 = .ok (.aload_n 0, 1) := by decide +kernel
theorem dX4_init_31 : decode cX4_init 31 = .ok (.iconst 0, 1) := by decide +kernel
theorem dX4_init_32 : decode cX4_init 32 = .ok (.putfield 25, 3) := by decide +kernel
theorem dX4_init_35 : decode cX4_init 35 = .ok (.aload_n 0, 1) := by decide +kernel
theorem dX4_init_36 : decode cX4_init 36 = .ok (.iconst 0, 1) := by decide +kernel
theorem dX4_init_37 : decode cX4_init 37 = .ok (.putfield 28, 3) := by decide +kernel
theorem dX4_init_40 : decode cX4_init 40 = .ok (.aload_n 0, 1) := by decide +kernel
theorem dX4_init_41 : decode cX4_init 41 = .ok (.iconst 0, 1) := by decide +kernel
theorem dX4_init_42 : decode cX4_init 42 = .ok (.putfield 31, 3) := by decide +kernel
theorem dX4_init_45 : decode cX4_init 45 = .ok (.aload_n 0, 1) := by decide +kernel
theorem dX4_init_46 : decode cX4_init 46 = .ok (.iconst 0, 1) := by decide +kernel
theorem dX4_init_47 : decode cX4_init 47 = .ok (.putfield 34, 3) := by decide +kernel
theorem dX4_init_50 : decode cX4_init 50 = .ok (.aload_n 0, 1) := by decide +kernel
theorem dX4_init_51 : decode cX4_init 51 = .ok (.iconst 0, 1) := by decide +kernel
theorem dX4_init_52 : decode cX4_init 52 = .ok (.putfield 37, 3) := by decide +kernel
theorem dX4_init_55 : decode cX4_init 55 = .ok (.return_, 1) := by decide +kernel
set_option maxHeartbeats 4000000 in
set_option maxRecDepth 100000 in
theorem c_X4_init (l : Launch) (G : GT) (q N : Nat) (hlow : gL G ≤ q) : Met l yX4_init (Cond.code yX4_init cX4_init 1 none :: bigW) ({ frames := 1, cells := 2, slots := 48, locals := 14 }) (BP G [.ref q] (fun _ H => H.size = N ∧ PW G [(q, .inr (4, [.null, .null, .int 0, .int 0, .int 0, .int 0, .int 0, .int 0, .int 0]))] H)) (QE none (fun H => ∃ z7, ∃ z15, PW G [(q, .inr (4, [.ref z7, .ref z15, .int 0, .int 0, .int 0, .int 0, .int 0, .int 0, .int 0])), (z7, .inl (gI G, 24, .inl (fun _ => 0))), (z15, .inl (gI G, 24, .inl (fun _ => 0)))] H ∧ va_D (va_A [(q, .inr (4, [.null, .null, .int 0, .int 0, .int 0, .int 0, .int 0, .int 0, .int 0]))] N) [(q, .inr (4, [.ref z7, .ref z15, .int 0, .int 0, .int 0, .int 0, .int 0, .int 0, .int 0])), (z7, .inl (gI G, 24, .inl (fun _ => 0))), (z15, .inl (gI G, 24, .inl (fun _ => 0)))]) (va_A [(q, .inr (4, [.null, .null, .int 0, .int 0, .int 0, .int 0, .int 0, .int 0, .int 0]))] N)) 2 48 (va_A [(q, .inr (4, [.null, .null, .int 0, .int 0, .int 0, .int 0, .int 0, .int 0, .int 0]))] N) := by
  refine met_of (by decide) (Nat.le_of_ble_eq_true rfl) ?_
  intro p e s m below meth c ls hC hKN hB0 hl
  obtain ⟨hN, hP⟩ := hB0
  have hl : lv_has ls 1 [(0, .ref q)] := hl
  obtain ⟨A, hAe⟩ : ∃ A, A = (va_A [(q, .inr (4, [.null, .null, .int 0, .int 0, .int 0, .int 0, .int 0, .int 0, .int 0]))] N) := ⟨_, rfl⟩
  have hD : va_D A [(q, .inr (4, [.null, .null, .int 0, .int 0, .int 0, .int 0, .int 0, .int 0, .int 0]))] := hAe ▸ mk_D
  have hS : va_S A s.heap s.heap [] := va_S.rf
  have hAL := mk_low hAe hlow (hN ▸ hKN.1.2)
  have hAs : ∀ z, s.heap.size ≤ z → A z := fun z h => by rw [hAe]; exact Or.inr (hN ▸ h)
  rw [show (va_A [(q, .inr (4, [.null, .null, .int 0, .int 0, .int 0, .int 0, .int 0, .int 0, .int 0]))] N) = A from hAe.symm]
  refine lv_aload_n hC.1 hC.2.1 dX4_init_0 rfl (lv_at hl 0 rfl) ?_
  refine oI hC wd_67 hl.1 dX4_init_1 (by decide) (Nat.le_of_ble_eq_true rfl) ?_
  refine lv_aload_n hC.1 hC.2.1 dX4_init_4 rfl (lv_at hl 0 rfl) ?_
  refine lv_bipush (v := 24) hC.1 hC.2.1 dX4_init_5 (by decide +kernel) ?_
  refine nwI hC (hKN.go hAL hS) hP hD hS hAs 24 rfl (by decide) (Nat.le_of_ble_eq_true rfl) (Nat.le_of_ble_eq_true rfl) dX4_init_7 (fun z7 H1 hP1 hD1 hS => ?_)
  have hP : PW G [(q, .inr (4, [.null, .null, .int 0, .int 0, .int 0, .int 0, .int 0, .int 0, .int 0])), (z7, .inl (gI G, 24, .inl (fun _ => 0)))] H1 := hP1
  have hD : va_D A [(q, .inr (4, [.null, .null, .int 0, .int 0, .int 0, .int 0, .int 0, .int 0, .int 0])), (z7, .inl (gI G, 24, .inl (fun _ => 0)))] := hD1
  refine pfF (v := .ref z7) (tv := .array .int) hC fwX4 (hKN.go hAL hS) hP hD hS 0 rfl rfl 0 (by decide) rfl rfl rfl wd_68 rfl rfl rfl (Nat.le_of_ble_eq_true rfl) dX4_init_9 (fun H2 locs hP1 hS => ?_)
  have hP : PW G [(q, .inr (4, [.ref z7, .null, .int 0, .int 0, .int 0, .int 0, .int 0, .int 0, .int 0])), (z7, .inl (gI G, 24, .inl (fun _ => 0)))] H2 := hP1
  have hD : va_D A [(q, .inr (4, [.ref z7, .null, .int 0, .int 0, .int 0, .int 0, .int 0, .int 0, .int 0])), (z7, .inl (gI G, 24, .inl (fun _ => 0)))] := va_D_fst hD rfl
  refine lv_aload_n hC.1 hC.2.1 dX4_init_12 rfl (lv_at hl 0 rfl) ?_
  refine lv_bipush (v := 24) hC.1 hC.2.1 dX4_init_13 (by decide +kernel) ?_
  refine nwI hC (hKN.go hAL hS) hP hD hS hAs 24 rfl (by decide) (Nat.le_of_ble_eq_true rfl) (Nat.le_of_ble_eq_true rfl) dX4_init_15 (fun z15 H3 hP1 hD1 hS => ?_)
  have hP : PW G [(q, .inr (4, [.ref z7, .null, .int 0, .int 0, .int 0, .int 0, .int 0, .int 0, .int 0])), (z7, .inl (gI G, 24, .inl (fun _ => 0))), (z15, .inl (gI G, 24, .inl (fun _ => 0)))] H3 := hP1
  have hD : va_D A [(q, .inr (4, [.ref z7, .null, .int 0, .int 0, .int 0, .int 0, .int 0, .int 0, .int 0])), (z7, .inl (gI G, 24, .inl (fun _ => 0))), (z15, .inl (gI G, 24, .inl (fun _ => 0)))] := hD1
  refine pfF (v := .ref z15) (tv := .array .int) hC fwX4 (hKN.go hAL hS) hP hD hS 0 rfl rfl 1 (by decide) rfl rfl rfl wd_70 rfl rfl rfl (Nat.le_of_ble_eq_true rfl) dX4_init_17 (fun H4 locs hP1 hS => ?_)
  have hP : PW G [(q, .inr (4, [.ref z7, .ref z15, .int 0, .int 0, .int 0, .int 0, .int 0, .int 0, .int 0])), (z7, .inl (gI G, 24, .inl (fun _ => 0))), (z15, .inl (gI G, 24, .inl (fun _ => 0)))] H4 := hP1
  have hD : va_D A [(q, .inr (4, [.ref z7, .ref z15, .int 0, .int 0, .int 0, .int 0, .int 0, .int 0, .int 0])), (z7, .inl (gI G, 24, .inl (fun _ => 0))), (z15, .inl (gI G, 24, .inl (fun _ => 0)))] := va_D_fst hD rfl
  refine lv_aload_n hC.1 hC.2.1 dX4_init_20 rfl (lv_at hl 0 rfl) ?_
  refine lv_iconst (v := 0) hC.1 hC.2.1 dX4_init_21 (by decide) ?_
  refine pf (v := .int 0) (tv := .int) hC fwX4 (hKN.go hAL hS) hP hD hS 0 rfl rfl 2 (by decide) rfl wd_72 rfl rfl rfl (Nat.le_of_ble_eq_true rfl) dX4_init_22 (fun H5 locs hP1 hS => ?_)
  have hP : PW G [(q, .inr (4, [.ref z7, .ref z15, .int 0, .int 0, .int 0, .int 0, .int 0, .int 0, .int 0])), (z7, .inl (gI G, 24, .inl (fun _ => 0))), (z15, .inl (gI G, 24, .inl (fun _ => 0)))] H5 := hP1
  have hD : va_D A [(q, .inr (4, [.ref z7, .ref z15, .int 0, .int 0, .int 0, .int 0, .int 0, .int 0, .int 0])), (z7, .inl (gI G, 24, .inl (fun _ => 0))), (z15, .inl (gI G, 24, .inl (fun _ => 0)))] := va_D_fst hD rfl
  refine lv_aload_n hC.1 hC.2.1 dX4_init_25 rfl (lv_at hl 0 rfl) ?_
  refine lv_iconst (v := 0) hC.1 hC.2.1 dX4_init_26 (by decide) ?_
  refine pf (v := .int 0) (tv := .int) hC fwX4 (hKN.go hAL hS) hP hD hS 0 rfl rfl 3 (by decide) rfl wd_75 rfl rfl rfl (Nat.le_of_ble_eq_true rfl) dX4_init_27 (fun H6 locs hP1 hS => ?_)
  have hP : PW G [(q, .inr (4, [.ref z7, .ref z15, .int 0, .int 0, .int 0, .int 0, .int 0, .int 0, .int 0])), (z7, .inl (gI G, 24, .inl (fun _ => 0))), (z15, .inl (gI G, 24, .inl (fun _ => 0)))] H6 := hP1
  have hD : va_D A [(q, .inr (4, [.ref z7, .ref z15, .int 0, .int 0, .int 0, .int 0, .int 0, .int 0, .int 0])), (z7, .inl (gI G, 24, .inl (fun _ => 0))), (z15, .inl (gI G, 24, .inl (fun _ => 0)))] := va_D_fst hD rfl
  refine lv_aload_n hC.1 hC.2.1 dX4_init_30 rfl (lv_at hl 0 rfl) ?_
  refine lv_iconst (v := 0) hC.1 hC.2.1 dX4_init_31 (by decide) ?_
  refine pf (v := .int 0) (tv := .int) hC fwX4 (hKN.go hAL hS) hP hD hS 0 rfl rfl 4 (by decide) rfl wd_77 rfl rfl rfl (Nat.le_of_ble_eq_true rfl) dX4_init_32 (fun H7 locs hP1 hS => ?_)
  have hP : PW G [(q, .inr (4, [.ref z7, .ref z15, .int 0, .int 0, .int 0, .int 0, .int 0, .int 0, .int 0])), (z7, .inl (gI G, 24, .inl (fun _ => 0))), (z15, .inl (gI G, 24, .inl (fun _ => 0)))] H7 := hP1
  have hD : va_D A [(q, .inr (4, [.ref z7, .ref z15, .int 0, .int 0, .int 0, .int 0, .int 0, .int 0, .int 0])), (z7, .inl (gI G, 24, .inl (fun _ => 0))), (z15, .inl (gI G, 24, .inl (fun _ => 0)))] := va_D_fst hD rfl
  refine lv_aload_n hC.1 hC.2.1 dX4_init_35 rfl (lv_at hl 0 rfl) ?_
  refine lv_iconst (v := 0) hC.1 hC.2.1 dX4_init_36 (by decide) ?_
  refine pf (v := .int 0) (tv := .int) hC fwX4 (hKN.go hAL hS) hP hD hS 0 rfl rfl 5 (by decide) rfl wd_79 rfl rfl rfl (Nat.le_of_ble_eq_true rfl) dX4_init_37 (fun H8 locs hP1 hS => ?_)
  have hP : PW G [(q, .inr (4, [.ref z7, .ref z15, .int 0, .int 0, .int 0, .int 0, .int 0, .int 0, .int 0])), (z7, .inl (gI G, 24, .inl (fun _ => 0))), (z15, .inl (gI G, 24, .inl (fun _ => 0)))] H8 := hP1
  have hD : va_D A [(q, .inr (4, [.ref z7, .ref z15, .int 0, .int 0, .int 0, .int 0, .int 0, .int 0, .int 0])), (z7, .inl (gI G, 24, .inl (fun _ => 0))), (z15, .inl (gI G, 24, .inl (fun _ => 0)))] := va_D_fst hD rfl
  refine lv_aload_n hC.1 hC.2.1 dX4_init_40 rfl (lv_at hl 0 rfl) ?_
  refine lv_iconst (v := 0) hC.1 hC.2.1 dX4_init_41 (by decide) ?_
  refine pf (v := .int 0) (tv := .int) hC fwX4 (hKN.go hAL hS) hP hD hS 0 rfl rfl 6 (by decide) rfl wd_82 rfl rfl rfl (Nat.le_of_ble_eq_true rfl) dX4_init_42 (fun H9 locs hP1 hS => ?_)
  have hP : PW G [(q, .inr (4, [.ref z7, .ref z15, .int 0, .int 0, .int 0, .int 0, .int 0, .int 0, .int 0])), (z7, .inl (gI G, 24, .inl (fun _ => 0))), (z15, .inl (gI G, 24, .inl (fun _ => 0)))] H9 := hP1
  have hD : va_D A [(q, .inr (4, [.ref z7, .ref z15, .int 0, .int 0, .int 0, .int 0, .int 0, .int 0, .int 0])), (z7, .inl (gI G, 24, .inl (fun _ => 0))), (z15, .inl (gI G, 24, .inl (fun _ => 0)))] := va_D_fst hD rfl
  refine lv_aload_n hC.1 hC.2.1 dX4_init_45 rfl (lv_at hl 0 rfl) ?_
  refine lv_iconst (v := 0) hC.1 hC.2.1 dX4_init_46 (by decide) ?_
  refine pf (v := .int 0) (tv := .int) hC fwX4 (hKN.go hAL hS) hP hD hS 0 rfl rfl 7 (by decide) rfl wd_84 rfl rfl rfl (Nat.le_of_ble_eq_true rfl) dX4_init_47 (fun H10 locs hP1 hS => ?_)
  have hP : PW G [(q, .inr (4, [.ref z7, .ref z15, .int 0, .int 0, .int 0, .int 0, .int 0, .int 0, .int 0])), (z7, .inl (gI G, 24, .inl (fun _ => 0))), (z15, .inl (gI G, 24, .inl (fun _ => 0)))] H10 := hP1
  have hD : va_D A [(q, .inr (4, [.ref z7, .ref z15, .int 0, .int 0, .int 0, .int 0, .int 0, .int 0, .int 0])), (z7, .inl (gI G, 24, .inl (fun _ => 0))), (z15, .inl (gI G, 24, .inl (fun _ => 0)))] := va_D_fst hD rfl
  refine lv_aload_n hC.1 hC.2.1 dX4_init_50 rfl (lv_at hl 0 rfl) ?_
  refine lv_iconst (v := 0) hC.1 hC.2.1 dX4_init_51 (by decide) ?_
  refine pf (v := .int 0) (tv := .int) hC fwX4 (hKN.go hAL hS) hP hD hS 0 rfl rfl 8 (by decide) rfl wd_86 rfl rfl rfl (Nat.le_of_ble_eq_true rfl) dX4_init_52 (fun H11 locs hP1 hS => ?_)
  have hP : PW G [(q, .inr (4, [.ref z7, .ref z15, .int 0, .int 0, .int 0, .int 0, .int 0, .int 0, .int 0])), (z7, .inl (gI G, 24, .inl (fun _ => 0))), (z15, .inl (gI G, 24, .inl (fun _ => 0)))] H11 := hP1
  have hD : va_D A [(q, .inr (4, [.ref z7, .ref z15, .int 0, .int 0, .int 0, .int 0, .int 0, .int 0, .int 0])), (z7, .inl (gI G, 24, .inl (fun _ => 0))), (z15, .inl (gI G, 24, .inl (fun _ => 0)))] := va_D_fst hD rfl
  exact eE_v hC ⟨z7, z15, hP, hAe ▸ hD⟩ hS dX4_init_55

def ad11 (q0 q1 q2 q3 q4 q5 q6 q7 q8 q9 q10 : Nat) : Nat → Nat := fun i => match i with
  | 0 => q0
  | 1 => q1
  | 2 => q2
  | 3 => q3
  | 4 => q4
  | 5 => q5
  | 6 => q6
  | 7 => q7
  | 8 => q8
  | 9 => q9
  | _ => q10
def zF : Nat → Int32 := fun _ => 0
/-- a new State -/
def sv0 : SV := mkS zF zF (fX5_copyRow 7 st0 7 zF) zF zF zF zF zF 0 0 0 0 0 0 0 0 0 0 0

theorem dX2_init_0 : decode cX2_init 0 = .ok (.aload_n 0, 1) := by decide +kernel
theorem dX2_init_1 : decode cX2_init 1 = .ok (.invokespecial 3, 3) := by decide +kernel
theorem dX2_init_4 : decode cX2_init 4 = .ok (.aload_n 0, 1) := by decide +kernel
theorem dX2_init_5 : decode cX2_init 5 = .ok (.bipush 24, 2) := by decide +kernel
theorem dX2_init_7 : decode cX2_init 7 = .ok (.newarray .int, 2) := by decide +kernel
theorem dX2_init_9 : decode cX2_init 9 = .ok (.putfield 9, 3) := by decide +kernel
theorem dX2_init_12 : decode cX2_init 12 = .ok (.aload_n 0, 1) := by decide +kernel
theorem dX2_init_13 : decode cX2_init 13 = .ok (.bipush 24, 2) := by decide +kernel
theorem dX2_init_15 : decode cX2_init 15 = .ok (.newarray .int, 2) := by decide +kernel
theorem dX2_init_17 : decode cX2_init 17 = .ok (.putfield 15, 3) := by decide +kernel
theorem dX2_init_20 : decode cX2_init 20 = .ok (.aload_n 0, 1) := by decide +kernel
theorem dX2_init_21 : decode cX2_init 21 = .ok (.getstatic 18, 3) := by decide +kernel
theorem dX2_init_24 : decode cX2_init 24 = .ok (.arraylength, 1) := by decide +kernel
theorem dX2_init_25 : decode cX2_init 25 = .ok (.newarray .int, 2) := by decide +kernel
theorem dX2_init_27 : decode cX2_init 27 = .ok (.putfield 21, 3) := by decide +kernel
theorem dX2_init_30 : decode cX2_init 30 = .ok (.getstatic 18, 3) := by decide +kernel
theorem dX2_init_33 : decode cX2_init 33 = .ok (.aload_n 0, 1) := by decide +kernel
theorem dX2_init_34 : decode cX2_init 34 = .ok (.getfield 21, 3) := by decide +kernel
theorem dX2_init_37 : decode cX2_init 37 = .ok (.invokestatic 24, 3) := by decide +kernel
theorem dX2_init_40 : decode cX2_init 40 = .ok (.aload_n 0, 1) := by decide +kernel
theorem dX2_init_41 : decode cX2_init 41 = .ok (.new 28, 3) := by decide +kernel
theorem dX2_init_44 : decode cX2_init 44 = .ok (.dup, 1) := by decide +kernel
theorem dX2_init_45 : decode cX2_init 45 = .ok (.invokespecial 30, 3) := by decide +kernel
theorem dX2_init_48 : decode cX2_init 48 = .ok (.putfield 31, 3) := by decide +kernel
theorem dX2_init_51 : decode cX2_init 51 = .ok (.aload_n 0, 1) := by decide +kernel
theorem dX2_init_52 : decode cX2_init 52 = .ok (.new 35, 3) := by decide +kernel
theorem dX2_init_55 : decode cX2_init 55 = .ok (.dup, 1) := by decide +kernel
theorem dX2_init_56 : decode cX2_init 56 = .ok (.invokespecial 37, 3) := by decide +kernel
theorem dX2_init_59 : decode cX2_init 59 = .ok (.putfield 38, 3) := by decide +kernel
theorem dX2_init_62 : decode cX2_init 62 = .ok (.aload_n 0, 1) := by decide +kernel
theorem dX2_init_63 : decode cX2_init 63 = .ok (.iconst 0, 1) := by decide +kernel
theorem dX2_init_64 : decode cX2_init 64 = .ok (.putfield 42, 3) := by decide +kernel
theorem dX2_init_67 : decode cX2_init 67 = .ok (.aload_n 0, 1) := by decide +kernel
theorem dX2_init_68 : decode cX2_init 68 = .ok (.iconst 0, 1) := by decide +kernel
theorem dX2_init_69 : decode cX2_init 69 = .ok (.putfield 46, 3) := by decide +kernel
theorem dX2_init_72 : decode cX2_init 72 = .ok (.aload_n 0, 1) := by decide +kernel
theorem dX2_init_73 : decode cX2_init 73 = .ok (.iconst 0, 1) := by decide +kernel
theorem dX2_init_74 : decode cX2_init 74 = .ok (.putfield 49, 3) := by decide +kernel
theorem dX2_init_77 : decode cX2_init 77 = .ok (.return_, 1) := by decide +kernel
set_option maxHeartbeats 4000000 in
set_option maxRecDepth 100000 in
theorem c_X2_init (l : Launch) (G : GT) (q N : Nat) (hlow : gL G ≤ q) : Met l yX2_init (Cond.code yX2_init cX2_init 1 none :: bigW) ({ frames := 3, cells := 10, slots := 152, locals := 90 }) (BP G [.ref q] (fun _ H => H.size = N ∧ PW G [(q, .inr (2, [.null, .null, .null, .null, .null, .int 0, .int 0, .int 0]))] H)) (QE none (fun H => ∃ r : Nat → Nat, r 0 = q ∧ PW G (stW G r sv0) H ∧ va_D (va_A [(q, .inr (2, [.null, .null, .null, .null, .null, .int 0, .int 0, .int 0]))] N) (stW G r sv0)) (va_A [(q, .inr (2, [.null, .null, .null, .null, .null, .int 0, .int 0, .int 0]))] N)) 10 152 (va_A [(q, .inr (2, [.null, .null, .null, .null, .null, .int 0, .int 0, .int 0]))] N) := by
  refine met_of (by decide) (Nat.le_of_ble_eq_true rfl) ?_
  intro p e s m below meth c ls hC hKN hB0 hl
  obtain ⟨hN, hP⟩ := hB0
  have hl : lv_has ls 1 [(0, .ref q)] := hl
  obtain ⟨A, hAe⟩ : ∃ A, A = (va_A [(q, .inr (2, [.null, .null, .null, .null, .null, .int 0, .int 0, .int 0]))] N) := ⟨_, rfl⟩
  have hD : va_D A [(q, .inr (2, [.null, .null, .null, .null, .null, .int 0, .int 0, .int 0]))] := hAe ▸ mk_D
  have hS : va_S A s.heap s.heap [] := va_S.rf
  have hAL := mk_low hAe hlow (hN ▸ hKN.1.2)
  have hAs : ∀ z, s.heap.size ≤ z → A z := fun z h => by rw [hAe]; exact Or.inr (hN ▸ h)
  rw [show (va_A [(q, .inr (2, [.null, .null, .null, .null, .null, .int 0, .int 0, .int 0]))] N) = A from hAe.symm]
  refine lv_aload_n hC.1 hC.2.1 dX2_init_0 rfl (lv_at hl 0 rfl) ?_
  refine oI hC wd_28 hl.1 dX2_init_1 (Nat.le_of_ble_eq_true rfl) (Nat.le_of_ble_eq_true rfl) ?_
  refine lv_aload_n hC.1 hC.2.1 dX2_init_4 rfl (lv_at hl 0 rfl) ?_
  refine lv_bipush (v := 24) hC.1 hC.2.1 dX2_init_5 (by decide +kernel) ?_
  refine nwI hC (hKN.go hAL hS) hP hD hS hAs 24 rfl (by decide) (Nat.le_of_ble_eq_true rfl) (Nat.le_of_ble_eq_true rfl) dX2_init_7 (fun z7 H5 hP1 hD1 hS => ?_)
  have hP : PW G ([(q, .inr (2, [.null, .null, .null, .null, .null, .int 0, .int 0, .int 0])), (z7, .inl (gI G, 24, .inl (fun _ => 0)))]) H5 := hP1
  have hD : va_D A ([(q, .inr (2, [.null, .null, .null, .null, .null, .int 0, .int 0, .int 0])), (z7, .inl (gI G, 24, .inl (fun _ => 0)))]) := hD1
  clear hP1
  refine pfF (v := .ref z7) (tv := .array .int) hC fwX2 (hKN.go hAL hS) hP hD hS 0 rfl rfl 0 (by decide) rfl rfl rfl wd_108 rfl rfl rfl (Nat.le_of_ble_eq_true rfl) dX2_init_9 (fun H6 locs hP1 hS => ?_)
  have hP : PW G ([(q, .inr (2, [.ref z7, .null, .null, .null, .null, .int 0, .int 0, .int 0])), (z7, .inl (gI G, 24, .inl (fun _ => 0)))]) H6 := hP1
  have hD : va_D A ([(q, .inr (2, [.ref z7, .null, .null, .null, .null, .int 0, .int 0, .int 0])), (z7, .inl (gI G, 24, .inl (fun _ => 0)))]) := va_D_fst hD rfl
  clear hP1
  refine lv_aload_n hC.1 hC.2.1 dX2_init_12 rfl (lv_at hl 0 rfl) ?_
  refine lv_bipush (v := 24) hC.1 hC.2.1 dX2_init_13 (by decide +kernel) ?_
  refine nwI hC (hKN.go hAL hS) hP hD hS hAs 24 rfl (by decide) (Nat.le_of_ble_eq_true rfl) (Nat.le_of_ble_eq_true rfl) dX2_init_15 (fun z15 H9 hP1 hD1 hS => ?_)
  have hP : PW G ([(q, .inr (2, [.ref z7, .null, .null, .null, .null, .int 0, .int 0, .int 0])), (z7, .inl (gI G, 24, .inl (fun _ => 0))), (z15, .inl (gI G, 24, .inl (fun _ => 0)))]) H9 := hP1
  have hD : va_D A ([(q, .inr (2, [.ref z7, .null, .null, .null, .null, .int 0, .int 0, .int 0])), (z7, .inl (gI G, 24, .inl (fun _ => 0))), (z15, .inl (gI G, 24, .inl (fun _ => 0)))]) := hD1
  clear hP1
  refine pfF (v := .ref z15) (tv := .array .int) hC fwX2 (hKN.go hAL hS) hP hD hS 0 rfl rfl 1 (by decide) rfl rfl rfl wd_109 rfl rfl rfl (Nat.le_of_ble_eq_true rfl) dX2_init_17 (fun H10 locs hP1 hS => ?_)
  have hP : PW G ([(q, .inr (2, [.ref z7, .ref z15, .null, .null, .null, .int 0, .int 0, .int 0])), (z7, .inl (gI G, 24, .inl (fun _ => 0))), (z15, .inl (gI G, 24, .inl (fun _ => 0)))]) H10 := hP1
  have hD : va_D A ([(q, .inr (2, [.ref z7, .ref z15, .null, .null, .null, .int 0, .int 0, .int 0])), (z7, .inl (gI G, 24, .inl (fun _ => 0))), (z15, .inl (gI G, 24, .inl (fun _ => 0)))]) := va_D_fst hD rfl
  clear hP1
  refine lv_aload_n hC.1 hC.2.1 dX2_init_20 rfl (lv_at hl 0 rfl) ?_
  refine gsN hC ((hKN.go hAL hS).2.2.1 0 (by decide)).1 (nf_0 (hKN.go hAL hS)) dX2_init_21 ?_
  refine rd_len hC ((hKN.go hAL hS).rd 0 (by decide)) dX2_init_24 ?_
  refine nwI hC (hKN.go hAL hS) hP hD hS hAs 7 rfl (by decide) (Nat.le_of_ble_eq_true rfl) (Nat.le_of_ble_eq_true rfl) dX2_init_25 (fun z25 H14 hP1 hD1 hS => ?_)
  have hP : PW G ([(q, .inr (2, [.ref z7, .ref z15, .null, .null, .null, .int 0, .int 0, .int 0])), (z7, .inl (gI G, 24, .inl (fun _ => 0))), (z15, .inl (gI G, 24, .inl (fun _ => 0))), (z25, .inl (gI G, 7, .inl (fun _ => 0)))]) H14 := hP1
  have hD : va_D A ([(q, .inr (2, [.ref z7, .ref z15, .null, .null, .null, .int 0, .int 0, .int 0])), (z7, .inl (gI G, 24, .inl (fun _ => 0))), (z15, .inl (gI G, 24, .inl (fun _ => 0))), (z25, .inl (gI G, 7, .inl (fun _ => 0)))]) := hD1
  clear hP1
  refine pfF (v := .ref z25) (tv := .array .int) hC fwX2 (hKN.go hAL hS) hP hD hS 0 rfl rfl 2 (by decide) rfl rfl rfl wd_110 rfl rfl rfl (Nat.le_of_ble_eq_true rfl) dX2_init_27 (fun H15 locs hP1 hS => ?_)
  have hP : PW G ([(q, .inr (2, [.ref z7, .ref z15, .ref z25, .null, .null, .int 0, .int 0, .int 0])), (z7, .inl (gI G, 24, .inl (fun _ => 0))), (z15, .inl (gI G, 24, .inl (fun _ => 0))), (z25, .inl (gI G, 7, .inl (fun _ => 0)))]) H15 := hP1
  have hD : va_D A ([(q, .inr (2, [.ref z7, .ref z15, .ref z25, .null, .null, .int 0, .int 0, .int 0])), (z7, .inl (gI G, 24, .inl (fun _ => 0))), (z15, .inl (gI G, 24, .inl (fun _ => 0))), (z25, .inl (gI G, 7, .inl (fun _ => 0)))]) := va_D_fst hD rfl
  clear hP1
  refine gsN hC ((hKN.go hAL hS).2.2.1 0 (by decide)).1 (nf_0 (hKN.go hAL hS)) dX2_init_30 ?_
  refine lv_aload_n hC.1 hC.2.1 dX2_init_33 rfl (lv_at hl 0 rfl) ?_
  refine gf (v := .ref z25) hC fwX2 (hKN.go hAL hS) hP 0 rfl rfl 2 (by decide) rfl wd_110 rfl dX2_init_34 ?_
  refine runE (rSN (B := fun U H => RD (gA G 0) 7 st0 U H ∧ PW G (a1W G z25 7 (fun _ => 0)) H) (As := [.ref (gA G 0), .ref z25]) (rest := []) hC mwX5_copyRow (c_X5_copyRow l G (gA G 0) 7 st0 z25 7 (fun _ => 0) (hAL _ (hD.2 3 _ rfl)) ⟨rfl, by decide⟩) wd_32 (nm_0 (hKN.go hAL hS)) ⟨rfl, rfl⟩ ⟨Nat.le_of_ble_eq_true rfl, Nat.le_of_ble_eq_true rfl⟩ (stb_and (stb_RD _ _ _) (stb_h (fun H => PW G (a1W G z25 7 (fun _ => 0)) H))) (hKN.go hAL hS) ⟨(hKN.go hAL hS).rd 0 (by decide), one_of hP 3 rfl⟩ rfl hl.1 rfl (Nat.le_of_ble_eq_true rfl) dX2_init_37 ⟨Nat.le_of_ble_eq_true rfl, Nat.le_of_ble_eq_true rfl⟩) hS (fun _ h => by rw [h]; exact hD.2 3 _ rfl) (fun _ h => by rw [h]; exact hD.2 3 _ rfl) (fun H19 locs hn _ hk hS => ?_)
  have hP1 := one_set hP hD 3 rfl hn hk
  clear hn hk
  have hP : PW G ([(q, .inr (2, [.ref z7, .ref z15, .ref z25, .null, .null, .int 0, .int 0, .int 0])), (z7, .inl (gI G, 24, .inl (fun _ => 0))), (z15, .inl (gI G, 24, .inl (fun _ => 0))), (z25, .inl (gI G, 7, .inl (fX5_copyRow 7 st0 7 (fun _ => 0))))]) H19 := hP1
  have hD : va_D A ([(q, .inr (2, [.ref z7, .ref z15, .ref z25, .null, .null, .int 0, .int 0, .int 0])), (z7, .inl (gI G, 24, .inl (fun _ => 0))), (z15, .inl (gI G, 24, .inl (fun _ => 0))), (z25, .inl (gI G, 7, .inl (fX5_copyRow 7 st0 7 (fun _ => 0))))]) := va_D_fst hD rfl
  clear hP1
  refine lv_aload_n hC.1 hC.2.1 dX2_init_40 rfl (lv_at hl 0 rfl) ?_
  refine nwO hC (hKN.go hAL hS) hP hD hS hAs fwX3 (ci := 3) rfl wd_40 wd_41 wd_5 (fs := [.null, .null, .null, .int 0]) (by decide) (Nat.le_of_ble_eq_true rfl) (Nat.le_of_ble_eq_true rfl) dX2_init_41 (fun z41_0 H21 hPa hDa hS hz => ?_)
  refine lv_dup hC.1 hC.2.1 dX2_init_44 rfl ?_
  refine runE (rI (B := fun _ H => H.size = H21.size ∧ PW G [(z41_0, .inr (3, [.null, .null, .null, .int 0]))] H) (rest := [.ref z41_0, .ref q]) hC mwX3_init (c_X3_init l G z41_0 H21.size hz) rfl wd_43 wd_42 ⟨rfl, rfl⟩ ⟨Nat.le_of_ble_eq_true rfl, Nat.le_of_ble_eq_true rfl⟩ (stb_h (fun H => H.size = H21.size ∧ PW G [(z41_0, .inr (3, [.null, .null, .null, .int 0]))] H)) (hKN.go hAL hS) ⟨rfl, va_P.sub hPa [4] rfl⟩ hl.1 (Nat.le_of_ble_eq_true rfl) dX2_init_45 ⟨Nat.le_of_ble_eq_true rfl, Nat.le_of_ble_eq_true rfl⟩) hS (mk_free (L := ([(q, .inr (2, [.ref z7, .ref z15, .ref z25, .null, .null, .int 0, .int 0, .int 0])), (z7, .inl (gI G, 24, .inl (fun _ => 0))), (z15, .inl (gI G, 24, .inl (fun _ => 0))), (z25, .inl (gI G, 7, .inl (fX5_copyRow 7 st0 7 (fun _ => 0))))])) hDa (fun z h => hAs z (Nat.le_trans hS.1 h))) (mk_free (L := ([(q, .inr (2, [.ref z7, .ref z15, .ref z25, .null, .null, .int 0, .int 0, .int 0])), (z7, .inl (gI G, 24, .inl (fun _ => 0))), (z15, .inl (gI G, 24, .inl (fun _ => 0))), (z25, .inl (gI G, 7, .inl (fX5_copyRow 7 st0 7 (fun _ => 0))))])) hDa (fun z h => hAs z (Nat.le_trans hS.1 h))) (fun H23 locs1 hn _ hk hS1 => ?_)
  obtain ⟨y45_0_0, y45_0_1, y45_0_2, hP1, hD1⟩ := hn
  have hj := mk_join (L := ([(q, .inr (2, [.ref z7, .ref z15, .ref z25, .null, .null, .int 0, .int 0, .int 0])), (z7, .inl (gI G, 24, .inl (fun _ => 0))), (z15, .inl (gI G, 24, .inl (fun _ => 0))), (z25, .inl (gI G, 7, .inl (fX5_copyRow 7 st0 7 (fun _ => 0))))])) hPa hDa (fun z h => hAs z (Nat.le_trans hS.1 h)) hk hP1 hD1
  clear hPa hDa hk hP1 hD1 hP hD
  have hS := hS1
  have hP : PW G ([(q, .inr (2, [.ref z7, .ref z15, .ref z25, .null, .null, .int 0, .int 0, .int 0])), (z7, .inl (gI G, 24, .inl (fun _ => 0))), (z15, .inl (gI G, 24, .inl (fun _ => 0))), (z25, .inl (gI G, 7, .inl (fX5_copyRow 7 st0 7 (fun _ => 0)))), (z41_0, .inr (3, [.ref y45_0_0, .ref y45_0_1, .ref y45_0_2, .int 0])), (y45_0_0, .inl (gI G, 12, .inl (fun _ => 0))), (y45_0_1, .inl (gI G, 12, .inl (fun _ => 0))), (y45_0_2, .inl (gI G, 12, .inl (fun _ => 0)))]) H23 := hj.1
  have hD : va_D A ([(q, .inr (2, [.ref z7, .ref z15, .ref z25, .null, .null, .int 0, .int 0, .int 0])), (z7, .inl (gI G, 24, .inl (fun _ => 0))), (z15, .inl (gI G, 24, .inl (fun _ => 0))), (z25, .inl (gI G, 7, .inl (fX5_copyRow 7 st0 7 (fun _ => 0)))), (z41_0, .inr (3, [.ref y45_0_0, .ref y45_0_1, .ref y45_0_2, .int 0])), (y45_0_0, .inl (gI G, 12, .inl (fun _ => 0))), (y45_0_1, .inl (gI G, 12, .inl (fun _ => 0))), (y45_0_2, .inl (gI G, 12, .inl (fun _ => 0)))]) := hj.2
  clear hj hS1
  refine pfF (v := .ref z41_0) (tv := .object "HeadDots$Strip") hC fwX2 (hKN.go hAL hS) hP hD hS 0 rfl rfl 3 (by decide) rfl rfl rfl wd_111 rfl rfl rfl (Nat.le_of_ble_eq_true rfl) dX2_init_48 (fun H24 locs hP1 hS => ?_)
  have hP : PW G ([(q, .inr (2, [.ref z7, .ref z15, .ref z25, .ref z41_0, .null, .int 0, .int 0, .int 0])), (z7, .inl (gI G, 24, .inl (fun _ => 0))), (z15, .inl (gI G, 24, .inl (fun _ => 0))), (z25, .inl (gI G, 7, .inl (fX5_copyRow 7 st0 7 (fun _ => 0)))), (z41_0, .inr (3, [.ref y45_0_0, .ref y45_0_1, .ref y45_0_2, .int 0])), (y45_0_0, .inl (gI G, 12, .inl (fun _ => 0))), (y45_0_1, .inl (gI G, 12, .inl (fun _ => 0))), (y45_0_2, .inl (gI G, 12, .inl (fun _ => 0)))]) H24 := hP1
  have hD : va_D A ([(q, .inr (2, [.ref z7, .ref z15, .ref z25, .ref z41_0, .null, .int 0, .int 0, .int 0])), (z7, .inl (gI G, 24, .inl (fun _ => 0))), (z15, .inl (gI G, 24, .inl (fun _ => 0))), (z25, .inl (gI G, 7, .inl (fX5_copyRow 7 st0 7 (fun _ => 0)))), (z41_0, .inr (3, [.ref y45_0_0, .ref y45_0_1, .ref y45_0_2, .int 0])), (y45_0_0, .inl (gI G, 12, .inl (fun _ => 0))), (y45_0_1, .inl (gI G, 12, .inl (fun _ => 0))), (y45_0_2, .inl (gI G, 12, .inl (fun _ => 0)))]) := va_D_fst hD rfl
  clear hP1
  refine lv_aload_n hC.1 hC.2.1 dX2_init_51 rfl (lv_at hl 0 rfl) ?_
  refine nwO hC (hKN.go hAL hS) hP hD hS hAs fwX4 (ci := 4) rfl wd_62 wd_63 wd_6 (fs := [.null, .null, .int 0, .int 0, .int 0, .int 0, .int 0, .int 0, .int 0]) (by decide) (Nat.le_of_ble_eq_true rfl) (Nat.le_of_ble_eq_true rfl) dX2_init_52 (fun z52_0 H26 hPa hDa hS hz => ?_)
  refine lv_dup hC.1 hC.2.1 dX2_init_55 rfl ?_
  refine runE (rI (B := fun _ H => H.size = H26.size ∧ PW G [(z52_0, .inr (4, [.null, .null, .int 0, .int 0, .int 0, .int 0, .int 0, .int 0, .int 0]))] H) (rest := [.ref z52_0, .ref q]) hC mwX4_init (c_X4_init l G z52_0 H26.size hz) rfl wd_65 wd_64 ⟨rfl, rfl⟩ ⟨Nat.le_of_ble_eq_true rfl, Nat.le_of_ble_eq_true rfl⟩ (stb_h (fun H => H.size = H26.size ∧ PW G [(z52_0, .inr (4, [.null, .null, .int 0, .int 0, .int 0, .int 0, .int 0, .int 0, .int 0]))] H)) (hKN.go hAL hS) ⟨rfl, va_P.sub hPa [8] rfl⟩ hl.1 (Nat.le_of_ble_eq_true rfl) dX2_init_56 ⟨Nat.le_of_ble_eq_true rfl, Nat.le_of_ble_eq_true rfl⟩) hS (mk_free (L := ([(q, .inr (2, [.ref z7, .ref z15, .ref z25, .ref z41_0, .null, .int 0, .int 0, .int 0])), (z7, .inl (gI G, 24, .inl (fun _ => 0))), (z15, .inl (gI G, 24, .inl (fun _ => 0))), (z25, .inl (gI G, 7, .inl (fX5_copyRow 7 st0 7 (fun _ => 0)))), (z41_0, .inr (3, [.ref y45_0_0, .ref y45_0_1, .ref y45_0_2, .int 0])), (y45_0_0, .inl (gI G, 12, .inl (fun _ => 0))), (y45_0_1, .inl (gI G, 12, .inl (fun _ => 0))), (y45_0_2, .inl (gI G, 12, .inl (fun _ => 0)))])) hDa (fun z h => hAs z (Nat.le_trans hS.1 h))) (mk_free (L := ([(q, .inr (2, [.ref z7, .ref z15, .ref z25, .ref z41_0, .null, .int 0, .int 0, .int 0])), (z7, .inl (gI G, 24, .inl (fun _ => 0))), (z15, .inl (gI G, 24, .inl (fun _ => 0))), (z25, .inl (gI G, 7, .inl (fX5_copyRow 7 st0 7 (fun _ => 0)))), (z41_0, .inr (3, [.ref y45_0_0, .ref y45_0_1, .ref y45_0_2, .int 0])), (y45_0_0, .inl (gI G, 12, .inl (fun _ => 0))), (y45_0_1, .inl (gI G, 12, .inl (fun _ => 0))), (y45_0_2, .inl (gI G, 12, .inl (fun _ => 0)))])) hDa (fun z h => hAs z (Nat.le_trans hS.1 h))) (fun H28 locs1 hn _ hk hS1 => ?_)
  obtain ⟨y56_0_0, y56_0_1, hP1, hD1⟩ := hn
  have hj := mk_join (L := ([(q, .inr (2, [.ref z7, .ref z15, .ref z25, .ref z41_0, .null, .int 0, .int 0, .int 0])), (z7, .inl (gI G, 24, .inl (fun _ => 0))), (z15, .inl (gI G, 24, .inl (fun _ => 0))), (z25, .inl (gI G, 7, .inl (fX5_copyRow 7 st0 7 (fun _ => 0)))), (z41_0, .inr (3, [.ref y45_0_0, .ref y45_0_1, .ref y45_0_2, .int 0])), (y45_0_0, .inl (gI G, 12, .inl (fun _ => 0))), (y45_0_1, .inl (gI G, 12, .inl (fun _ => 0))), (y45_0_2, .inl (gI G, 12, .inl (fun _ => 0)))])) hPa hDa (fun z h => hAs z (Nat.le_trans hS.1 h)) hk hP1 hD1
  clear hPa hDa hk hP1 hD1 hP hD
  have hS := hS1
  have hP : PW G ([(q, .inr (2, [.ref z7, .ref z15, .ref z25, .ref z41_0, .null, .int 0, .int 0, .int 0])), (z7, .inl (gI G, 24, .inl (fun _ => 0))), (z15, .inl (gI G, 24, .inl (fun _ => 0))), (z25, .inl (gI G, 7, .inl (fX5_copyRow 7 st0 7 (fun _ => 0)))), (z41_0, .inr (3, [.ref y45_0_0, .ref y45_0_1, .ref y45_0_2, .int 0])), (y45_0_0, .inl (gI G, 12, .inl (fun _ => 0))), (y45_0_1, .inl (gI G, 12, .inl (fun _ => 0))), (y45_0_2, .inl (gI G, 12, .inl (fun _ => 0))), (z52_0, .inr (4, [.ref y56_0_0, .ref y56_0_1, .int 0, .int 0, .int 0, .int 0, .int 0, .int 0, .int 0])), (y56_0_0, .inl (gI G, 24, .inl (fun _ => 0))), (y56_0_1, .inl (gI G, 24, .inl (fun _ => 0)))]) H28 := hj.1
  have hD : va_D A ([(q, .inr (2, [.ref z7, .ref z15, .ref z25, .ref z41_0, .null, .int 0, .int 0, .int 0])), (z7, .inl (gI G, 24, .inl (fun _ => 0))), (z15, .inl (gI G, 24, .inl (fun _ => 0))), (z25, .inl (gI G, 7, .inl (fX5_copyRow 7 st0 7 (fun _ => 0)))), (z41_0, .inr (3, [.ref y45_0_0, .ref y45_0_1, .ref y45_0_2, .int 0])), (y45_0_0, .inl (gI G, 12, .inl (fun _ => 0))), (y45_0_1, .inl (gI G, 12, .inl (fun _ => 0))), (y45_0_2, .inl (gI G, 12, .inl (fun _ => 0))), (z52_0, .inr (4, [.ref y56_0_0, .ref y56_0_1, .int 0, .int 0, .int 0, .int 0, .int 0, .int 0, .int 0])), (y56_0_0, .inl (gI G, 24, .inl (fun _ => 0))), (y56_0_1, .inl (gI G, 24, .inl (fun _ => 0)))]) := hj.2
  clear hj hS1
  refine pfF (v := .ref z52_0) (tv := .object "HeadDots$Totals") hC fwX2 (hKN.go hAL hS) hP hD hS 0 rfl rfl 4 (by decide) rfl rfl rfl wd_113 rfl rfl rfl (Nat.le_of_ble_eq_true rfl) dX2_init_59 (fun H29 locs hP1 hS => ?_)
  have hP : PW G ([(q, .inr (2, [.ref z7, .ref z15, .ref z25, .ref z41_0, .ref z52_0, .int 0, .int 0, .int 0])), (z7, .inl (gI G, 24, .inl (fun _ => 0))), (z15, .inl (gI G, 24, .inl (fun _ => 0))), (z25, .inl (gI G, 7, .inl (fX5_copyRow 7 st0 7 (fun _ => 0)))), (z41_0, .inr (3, [.ref y45_0_0, .ref y45_0_1, .ref y45_0_2, .int 0])), (y45_0_0, .inl (gI G, 12, .inl (fun _ => 0))), (y45_0_1, .inl (gI G, 12, .inl (fun _ => 0))), (y45_0_2, .inl (gI G, 12, .inl (fun _ => 0))), (z52_0, .inr (4, [.ref y56_0_0, .ref y56_0_1, .int 0, .int 0, .int 0, .int 0, .int 0, .int 0, .int 0])), (y56_0_0, .inl (gI G, 24, .inl (fun _ => 0))), (y56_0_1, .inl (gI G, 24, .inl (fun _ => 0)))]) H29 := hP1
  have hD : va_D A ([(q, .inr (2, [.ref z7, .ref z15, .ref z25, .ref z41_0, .ref z52_0, .int 0, .int 0, .int 0])), (z7, .inl (gI G, 24, .inl (fun _ => 0))), (z15, .inl (gI G, 24, .inl (fun _ => 0))), (z25, .inl (gI G, 7, .inl (fX5_copyRow 7 st0 7 (fun _ => 0)))), (z41_0, .inr (3, [.ref y45_0_0, .ref y45_0_1, .ref y45_0_2, .int 0])), (y45_0_0, .inl (gI G, 12, .inl (fun _ => 0))), (y45_0_1, .inl (gI G, 12, .inl (fun _ => 0))), (y45_0_2, .inl (gI G, 12, .inl (fun _ => 0))), (z52_0, .inr (4, [.ref y56_0_0, .ref y56_0_1, .int 0, .int 0, .int 0, .int 0, .int 0, .int 0, .int 0])), (y56_0_0, .inl (gI G, 24, .inl (fun _ => 0))), (y56_0_1, .inl (gI G, 24, .inl (fun _ => 0)))]) := va_D_fst hD rfl
  clear hP1
  refine lv_aload_n hC.1 hC.2.1 dX2_init_62 rfl (lv_at hl 0 rfl) ?_
  refine lv_iconst (v := 0) hC.1 hC.2.1 dX2_init_63 (by decide) ?_
  refine pf (v := .int 0) (tv := .int) hC fwX2 (hKN.go hAL hS) hP hD hS 0 rfl rfl 5 (by decide) rfl wd_115 rfl rfl rfl (Nat.le_of_ble_eq_true rfl) dX2_init_64 (fun H32 locs hP1 hS => ?_)
  have hP : PW G ([(q, .inr (2, [.ref z7, .ref z15, .ref z25, .ref z41_0, .ref z52_0, .int 0, .int 0, .int 0])), (z7, .inl (gI G, 24, .inl (fun _ => 0))), (z15, .inl (gI G, 24, .inl (fun _ => 0))), (z25, .inl (gI G, 7, .inl (fX5_copyRow 7 st0 7 (fun _ => 0)))), (z41_0, .inr (3, [.ref y45_0_0, .ref y45_0_1, .ref y45_0_2, .int 0])), (y45_0_0, .inl (gI G, 12, .inl (fun _ => 0))), (y45_0_1, .inl (gI G, 12, .inl (fun _ => 0))), (y45_0_2, .inl (gI G, 12, .inl (fun _ => 0))), (z52_0, .inr (4, [.ref y56_0_0, .ref y56_0_1, .int 0, .int 0, .int 0, .int 0, .int 0, .int 0, .int 0])), (y56_0_0, .inl (gI G, 24, .inl (fun _ => 0))), (y56_0_1, .inl (gI G, 24, .inl (fun _ => 0)))]) H32 := hP1
  have hD : va_D A ([(q, .inr (2, [.ref z7, .ref z15, .ref z25, .ref z41_0, .ref z52_0, .int 0, .int 0, .int 0])), (z7, .inl (gI G, 24, .inl (fun _ => 0))), (z15, .inl (gI G, 24, .inl (fun _ => 0))), (z25, .inl (gI G, 7, .inl (fX5_copyRow 7 st0 7 (fun _ => 0)))), (z41_0, .inr (3, [.ref y45_0_0, .ref y45_0_1, .ref y45_0_2, .int 0])), (y45_0_0, .inl (gI G, 12, .inl (fun _ => 0))), (y45_0_1, .inl (gI G, 12, .inl (fun _ => 0))), (y45_0_2, .inl (gI G, 12, .inl (fun _ => 0))), (z52_0, .inr (4, [.ref y56_0_0, .ref y56_0_1, .int 0, .int 0, .int 0, .int 0, .int 0, .int 0, .int 0])), (y56_0_0, .inl (gI G, 24, .inl (fun _ => 0))), (y56_0_1, .inl (gI G, 24, .inl (fun _ => 0)))]) := va_D_fst hD rfl
  clear hP1
  refine lv_aload_n hC.1 hC.2.1 dX2_init_67 rfl (lv_at hl 0 rfl) ?_
  refine lv_iconst (v := 0) hC.1 hC.2.1 dX2_init_68 (by decide) ?_
  refine pf (v := .int 0) (tv := .int) hC fwX2 (hKN.go hAL hS) hP hD hS 0 rfl rfl 6 (by decide) rfl wd_116 rfl rfl rfl (Nat.le_of_ble_eq_true rfl) dX2_init_69 (fun H35 locs hP1 hS => ?_)
  have hP : PW G ([(q, .inr (2, [.ref z7, .ref z15, .ref z25, .ref z41_0, .ref z52_0, .int 0, .int 0, .int 0])), (z7, .inl (gI G, 24, .inl (fun _ => 0))), (z15, .inl (gI G, 24, .inl (fun _ => 0))), (z25, .inl (gI G, 7, .inl (fX5_copyRow 7 st0 7 (fun _ => 0)))), (z41_0, .inr (3, [.ref y45_0_0, .ref y45_0_1, .ref y45_0_2, .int 0])), (y45_0_0, .inl (gI G, 12, .inl (fun _ => 0))), (y45_0_1, .inl (gI G, 12, .inl (fun _ => 0))), (y45_0_2, .inl (gI G, 12, .inl (fun _ => 0))), (z52_0, .inr (4, [.ref y56_0_0, .ref y56_0_1, .int 0, .int 0, .int 0, .int 0, .int 0, .int 0, .int 0])), (y56_0_0, .inl (gI G, 24, .inl (fun _ => 0))), (y56_0_1, .inl (gI G, 24, .inl (fun _ => 0)))]) H35 := hP1
  have hD : va_D A ([(q, .inr (2, [.ref z7, .ref z15, .ref z25, .ref z41_0, .ref z52_0, .int 0, .int 0, .int 0])), (z7, .inl (gI G, 24, .inl (fun _ => 0))), (z15, .inl (gI G, 24, .inl (fun _ => 0))), (z25, .inl (gI G, 7, .inl (fX5_copyRow 7 st0 7 (fun _ => 0)))), (z41_0, .inr (3, [.ref y45_0_0, .ref y45_0_1, .ref y45_0_2, .int 0])), (y45_0_0, .inl (gI G, 12, .inl (fun _ => 0))), (y45_0_1, .inl (gI G, 12, .inl (fun _ => 0))), (y45_0_2, .inl (gI G, 12, .inl (fun _ => 0))), (z52_0, .inr (4, [.ref y56_0_0, .ref y56_0_1, .int 0, .int 0, .int 0, .int 0, .int 0, .int 0, .int 0])), (y56_0_0, .inl (gI G, 24, .inl (fun _ => 0))), (y56_0_1, .inl (gI G, 24, .inl (fun _ => 0)))]) := va_D_fst hD rfl
  clear hP1
  refine lv_aload_n hC.1 hC.2.1 dX2_init_72 rfl (lv_at hl 0 rfl) ?_
  refine lv_iconst (v := 0) hC.1 hC.2.1 dX2_init_73 (by decide) ?_
  refine pf (v := .int 0) (tv := .int) hC fwX2 (hKN.go hAL hS) hP hD hS 0 rfl rfl 7 (by decide) rfl wd_117 rfl rfl rfl (Nat.le_of_ble_eq_true rfl) dX2_init_74 (fun H38 locs hP1 hS => ?_)
  have hP : PW G ([(q, .inr (2, [.ref z7, .ref z15, .ref z25, .ref z41_0, .ref z52_0, .int 0, .int 0, .int 0])), (z7, .inl (gI G, 24, .inl (fun _ => 0))), (z15, .inl (gI G, 24, .inl (fun _ => 0))), (z25, .inl (gI G, 7, .inl (fX5_copyRow 7 st0 7 (fun _ => 0)))), (z41_0, .inr (3, [.ref y45_0_0, .ref y45_0_1, .ref y45_0_2, .int 0])), (y45_0_0, .inl (gI G, 12, .inl (fun _ => 0))), (y45_0_1, .inl (gI G, 12, .inl (fun _ => 0))), (y45_0_2, .inl (gI G, 12, .inl (fun _ => 0))), (z52_0, .inr (4, [.ref y56_0_0, .ref y56_0_1, .int 0, .int 0, .int 0, .int 0, .int 0, .int 0, .int 0])), (y56_0_0, .inl (gI G, 24, .inl (fun _ => 0))), (y56_0_1, .inl (gI G, 24, .inl (fun _ => 0)))]) H38 := hP1
  have hD : va_D A ([(q, .inr (2, [.ref z7, .ref z15, .ref z25, .ref z41_0, .ref z52_0, .int 0, .int 0, .int 0])), (z7, .inl (gI G, 24, .inl (fun _ => 0))), (z15, .inl (gI G, 24, .inl (fun _ => 0))), (z25, .inl (gI G, 7, .inl (fX5_copyRow 7 st0 7 (fun _ => 0)))), (z41_0, .inr (3, [.ref y45_0_0, .ref y45_0_1, .ref y45_0_2, .int 0])), (y45_0_0, .inl (gI G, 12, .inl (fun _ => 0))), (y45_0_1, .inl (gI G, 12, .inl (fun _ => 0))), (y45_0_2, .inl (gI G, 12, .inl (fun _ => 0))), (z52_0, .inr (4, [.ref y56_0_0, .ref y56_0_1, .int 0, .int 0, .int 0, .int 0, .int 0, .int 0, .int 0])), (y56_0_0, .inl (gI G, 24, .inl (fun _ => 0))), (y56_0_1, .inl (gI G, 24, .inl (fun _ => 0)))]) := va_D_fst hD rfl
  clear hP1
  exact eE_v hC ⟨ad11 q z7 z15 z25 z41_0 y45_0_0 y45_0_1 y45_0_2 z52_0 y56_0_0 y56_0_1, rfl, hP, hAe ▸ hD⟩ hS dX2_init_77

