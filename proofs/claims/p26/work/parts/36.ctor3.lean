theorem alen_q {p : Program} {l : Launch} {e : Env} {R : Room} {s : State} {m : MethodId} {args : Array Value} {below : List Frame} {meth : Method} {c : Code} {H : Heap} {locs : List Loc} {cells slots : Nat} {Q : State → Prop} {y0 : MethodName} {cc : ByteArray} {nL : Nat} {ret0 : Option FieldType} {rest : List Value} {pc : Nat} {ls : Array Slot} {G : GT} {ws : va_W} {a : Nat} (hC : CX p s m meth c y0 cc nL ret0 args) (hKN : KN G s H) (hP : PW G ws H) (q0 : Nat) {f : Nat → Option Nat} (ha : ws[q0]? = some (a, .inl (gR G, 6, .inr (.inr (.inr (.inr f)))))) (hdg : decode cc pc = .ok (.arraylength, 1))
    (kk : W p l e R s m args below meth c H locs cells slots Q (F0 m (pc + 1) ls (.int 6 :: rest))) : W p l e R s m args below meth c H locs cells slots Q (F0 m pc ls (.ref a :: rest)) := va_alen hC.1 hC.2.1 hKN.k hP q0 1 ha rfl rfl hdg kk
theorem dX5_init_0 : decode cX5_init 0 = .ok (.aload_n 0, 1) := by decide +kernel
theorem dX5_init_1 : decode cX5_init 1 = .ok (.invokespecial 1, 3) := by decide +kernel
theorem dX5_init_4 : decode cX5_init 4 = .ok (.aload_n 0, 1) := by decide +kernel
theorem dX5_init_5 : decode cX5_init 5 = .ok (.new 7, 3) := by decide +kernel
theorem dX5_init_8 : decode cX5_init 8 = .ok (.dup, 1) := by decide +kernel
theorem dX5_init_9 : decode cX5_init 9 = .ok (.invokespecial 9, 3) := by decide +kernel
theorem dX5_init_12 : decode cX5_init 12 = .ok (.putfield 10, 3) := by decide +kernel
theorem dX5_init_15 : decode cX5_init 15 = .ok (.aload_n 0, 1) := by decide +kernel
theorem dX5_init_16 : decode cX5_init 16 = .ok (.new 7, 3) := by decide +kernel
theorem dX5_init_19 : decode cX5_init 19 = .ok (.dup, 1) := by decide +kernel
theorem dX5_init_20 : decode cX5_init 20 = .ok (.invokespecial 9, 3) := by decide +kernel
theorem dX5_init_23 : decode cX5_init 23 = .ok (.putfield 16, 3) := by decide +kernel
theorem dX5_init_26 : decode cX5_init 26 = .ok (.aload_n 0, 1) := by decide +kernel
theorem dX5_init_27 : decode cX5_init 27 = .ok (.new 7, 3) := by decide +kernel
theorem dX5_init_30 : decode cX5_init 30 = .ok (.dup, 1) := by decide +kernel
theorem dX5_init_31 : decode cX5_init 31 = .ok (.invokespecial 9, 3) := by decide +kernel
theorem dX5_init_34 : decode cX5_init 34 = .ok (.putfield 19, 3) := by decide +kernel
theorem dX5_init_37 : decode cX5_init 37 = .ok (.aload_n 0, 1) := by decide +kernel
theorem dX5_init_38 : decode cX5_init 38 = .ok (.bipush 6, 2) := by decide +kernel
theorem dX5_init_40 : decode cX5_init 40 = .ok (.anewarray 7, 3) := by decide +kernel
theorem dX5_init_43 : decode cX5_init 43 = .ok (.putfield 22, 3) := by decide +kernel
theorem dX5_init_46 : decode cX5_init 46 = .ok (.iconst 0, 1) := by decide +kernel
theorem dX5_init_47 : decode cX5_init 47 = .ok (.istore_n 1, 1) := by decide +kernel
theorem dX5_init_48 : decode cX5_init 48 = .ok (.iload_n 1, 1) := by decide +kernel
theorem dX5_init_49 : decode cX5_init 49 = .ok (.aload_n 0, 1) := by decide +kernel
theorem dX5_init_50 : decode cX5_init 50 = .ok (.getfield 22, 3) := by decide +kernel
theorem dX5_init_53 : decode cX5_init 53 = .ok (.arraylength, 1) := by decide +kernel
theorem dX5_init_54 : decode cX5_init 54 = .ok (.if_icmp .ge 22, 3) := by decide +kernel
theorem dX5_init_57 : decode cX5_init 57 = .ok (.aload_n 0, 1) := by decide +kernel
theorem dX5_init_58 : decode cX5_init 58 = .ok (.getfield 22, 3) := by decide +kernel
theorem dX5_init_61 : decode cX5_init 61 = .ok (.iload_n 1, 1) := by decide +kernel
theorem dX5_init_62 : decode cX5_init 62 = .ok (.new 7, 3) := by decide +kernel
theorem dX5_init_65 : decode cX5_init 65 = .ok (.dup, 1) := by decide +kernel
theorem dX5_init_66 : decode cX5_init 66 = .ok (.invokespecial 9, 3) := by decide +kernel
theorem dX5_init_69 : decode cX5_init 69 = .ok (.aastore, 1) := by decide +kernel
theorem dX5_init_70 : decode cX5_init 70 = .ok (.iinc 1 1, 3) := by decide +kernel
theorem dX5_init_73 : decode cX5_init 73 = .ok (.goto (-25), 3) := by decide +kernel
theorem dX5_init_76 : decode cX5_init 76 = .ok (.aload_n 0, 1) := by decide +kernel
theorem dX5_init_77 : decode cX5_init 77 = .ok (.new 26, 3) := by decide +kernel
theorem dX5_init_80 : decode cX5_init 80 = .ok (.dup, 1) := by decide +kernel
theorem dX5_init_81 : decode cX5_init 81 = .ok (.invokespecial 28, 3) := by decide +kernel
theorem dX5_init_84 : decode cX5_init 84 = .ok (.putfield 29, 3) := by decide +kernel
theorem dX5_init_87 : decode cX5_init 87 = .ok (.aload_n 0, 1) := by decide +kernel
theorem dX5_init_88 : decode cX5_init 88 = .ok (.new 33, 3) := by decide +kernel
theorem dX5_init_91 : decode cX5_init 91 = .ok (.dup, 1) := by decide +kernel
theorem dX5_init_92 : decode cX5_init 92 = .ok (.invokespecial 35, 3) := by decide +kernel
theorem dX5_init_95 : decode cX5_init 95 = .ok (.putfield 36, 3) := by decide +kernel
theorem dX5_init_98 : decode cX5_init 98 = .ok (.aload_n 0, 1) := by decide +kernel
theorem dX5_init_99 : decode cX5_init 99 = .ok (.iconst 0, 1) := by decide +kernel
theorem dX5_init_100 : decode cX5_init 100 = .ok (.putfield 40, 3) := by decide +kernel
theorem dX5_init_103 : decode cX5_init 103 = .ok (.aload_n 0, 1) := by decide +kernel
theorem dX5_init_104 : decode cX5_init 104 = .ok (.iconst 0, 1) := by decide +kernel
theorem dX5_init_105 : decode cX5_init 105 = .ok (.putfield 44, 3) := by decide +kernel
theorem dX5_init_108 : decode cX5_init 108 = .ok (.return_, 1) := by decide +kernel
set_option maxHeartbeats 4000000 in
set_option maxRecDepth 100000 in
theorem c_X5_init (l : Launch) (G : GT) (q N : Nat) (hlow : gL G ≤ q) : Met l yX5_init (Cond.code yX5_init cX5_init 2 none :: bigW) ({ frames := 4, cells := 103, slots := 1518, locals := 120 }) (BP G [.ref q] (fun _ H => H.size = N ∧ PW G [(q, .inr (5, [.null, .null, .null, .null, .null, .null, .int 0, .int 0]))] H)) (QE none (fun H => ∃ a b : Nat → Nat, a 0 = q ∧ hdD G a b ∧ PW G (hdW G a b hv0) H ∧ ∀ z, hdA a b z → (va_A [(q, .inr (5, [.null, .null, .null, .null, .null, .null, .int 0, .int 0]))] N) z) (va_A [(q, .inr (5, [.null, .null, .null, .null, .null, .null, .int 0, .int 0]))] N)) 103 1518 (va_A [(q, .inr (5, [.null, .null, .null, .null, .null, .null, .int 0, .int 0]))] N) := by
  refine met_of (by decide) (Nat.le_of_ble_eq_true rfl) ?_
  intro p e s m below meth c ls hC hKN hB0 hl
  obtain ⟨hN, hP⟩ := hB0
  have hl : lv_has ls 2 [(0, .ref q)] := hl
  obtain ⟨A, hAe⟩ : ∃ A, A = (va_A [(q, .inr (5, [.null, .null, .null, .null, .null, .null, .int 0, .int 0]))] N) := ⟨_, rfl⟩
  have hD : va_D A [(q, .inr (5, [.null, .null, .null, .null, .null, .null, .int 0, .int 0]))] := hAe ▸ mk_D
  have hS : va_S A s.heap s.heap [] := va_S.rf
  have hAL := mk_low hAe hlow (hN ▸ hKN.1.2)
  have hAs : ∀ z, s.heap.size ≤ z → A z := fun z h => by rw [hAe]; exact Or.inr (hN ▸ h)
  rw [show (va_A [(q, .inr (5, [.null, .null, .null, .null, .null, .null, .int 0, .int 0]))] N) = A from hAe.symm]
  refine lv_aload_n hC.1 hC.2.1 dX5_init_0 rfl (lv_at hl 0 rfl) ?_
  refine oI hC wd_20 hl.1 dX5_init_1 (Nat.le_of_ble_eq_true rfl) (Nat.le_of_ble_eq_true rfl) ?_
  refine lv_aload_n hC.1 hC.2.1 dX5_init_4 rfl (lv_at hl 0 rfl) ?_
  refine nwO hC (hKN.go hAL hS) hP hD hS hAs fwX2 (ci := 2) rfl wd_23 wd_24 wd_2 (fs := [.null, .null, .null, .null, .null, .int 0, .int 0, .int 0]) (by decide) (Nat.le_of_ble_eq_true rfl) (Nat.le_of_ble_eq_true rfl) dX5_init_5 (fun z5_0 H4 hPa hDa hS hz => ?_)
  refine lv_dup hC.1 hC.2.1 dX5_init_8 rfl ?_
  refine runE (rI (B := fun _ H => H.size = H4.size ∧ PW G [(z5_0, .inr (2, [.null, .null, .null, .null, .null, .int 0, .int 0, .int 0]))] H) (rest := [.ref z5_0, .ref q]) hC mwX2_init (c_X2_init l G z5_0 H4.size hz) rfl wd_26 wd_25 ⟨rfl, rfl⟩ ⟨Nat.le_of_ble_eq_true rfl, Nat.le_of_ble_eq_true rfl⟩ (stb_h (fun H => H.size = H4.size ∧ PW G [(z5_0, .inr (2, [.null, .null, .null, .null, .null, .int 0, .int 0, .int 0]))] H)) (hKN.go hAL hS) ⟨rfl, va_P.sub hPa [1] rfl⟩ hl.1 (Nat.le_of_ble_eq_true rfl) dX5_init_9 ⟨Nat.le_of_ble_eq_true rfl, Nat.le_of_ble_eq_true rfl⟩) hS (mk_free (L := ([(q, .inr (5, [.null, .null, .null, .null, .null, .null, .int 0, .int 0]))])) hDa (fun z h => hAs z (Nat.le_trans hS.1 h))) (mk_free (L := ([(q, .inr (5, [.null, .null, .null, .null, .null, .null, .int 0, .int 0]))])) hDa (fun z h => hAs z (Nat.le_trans hS.1 h))) (fun H6 locs1 hn _ hk hS1 => ?_)
  obtain ⟨y9_0_0, ey9_0_0, hP1, hD1⟩ := hn
  have hj := mk_join (L := ([(q, .inr (5, [.null, .null, .null, .null, .null, .null, .int 0, .int 0]))])) hPa hDa (fun z h => hAs z (Nat.le_trans hS.1 h)) hk hP1 hD1
  clear hPa hDa hk hP1 hD1 hP hD
  have hS := hS1
  skip
  have hP : PW G ([(q, .inr (5, [.null, .null, .null, .null, .null, .null, .int 0, .int 0]))] ++ stW G y9_0_0 sv0) H6 := hj.1
  have hD : va_D A ([(q, .inr (5, [.null, .null, .null, .null, .null, .null, .int 0, .int 0]))] ++ stW G y9_0_0 sv0) := hj.2
  clear hj hS1
  have hqy9_0_0 : z5_0 = y9_0_0 0 := ey9_0_0.symm
  clear ey9_0_0
  subst hqy9_0_0
  refine pfF (v := .ref (y9_0_0 0)) (tv := .object "HeadDots$State") hC fwX5 (hKN.go hAL hS) hP hD hS 0 rfl rfl 0 (by decide) rfl rfl rfl wd_189 rfl rfl rfl (Nat.le_of_ble_eq_true rfl) dX5_init_12 (fun H7 locs hP1 hS => ?_)
  have hP : PW G ([(q, .inr (5, [.ref (y9_0_0 0), .null, .null, .null, .null, .null, .int 0, .int 0]))] ++ stW G y9_0_0 sv0) H7 := hP1
  have hD : va_D A ([(q, .inr (5, [.ref (y9_0_0 0), .null, .null, .null, .null, .null, .int 0, .int 0]))] ++ stW G y9_0_0 sv0) := va_D_fst hD rfl
  clear hP1
  refine lv_aload_n hC.1 hC.2.1 dX5_init_15 rfl (lv_at hl 0 rfl) ?_
  refine nwO hC (hKN.go hAL hS) hP hD hS hAs fwX2 (ci := 2) rfl wd_23 wd_24 wd_2 (fs := [.null, .null, .null, .null, .null, .int 0, .int 0, .int 0]) (by decide) (Nat.le_of_ble_eq_true rfl) (Nat.le_of_ble_eq_true rfl) dX5_init_16 (fun z16_0 H9 hPa hDa hS hz => ?_)
  refine lv_dup hC.1 hC.2.1 dX5_init_19 rfl ?_
  refine runE (rI (B := fun _ H => H.size = H9.size ∧ PW G [(z16_0, .inr (2, [.null, .null, .null, .null, .null, .int 0, .int 0, .int 0]))] H) (rest := [.ref z16_0, .ref q]) hC mwX2_init (c_X2_init l G z16_0 H9.size hz) rfl wd_26 wd_25 ⟨rfl, rfl⟩ ⟨Nat.le_of_ble_eq_true rfl, Nat.le_of_ble_eq_true rfl⟩ (stb_h (fun H => H.size = H9.size ∧ PW G [(z16_0, .inr (2, [.null, .null, .null, .null, .null, .int 0, .int 0, .int 0]))] H)) (hKN.go hAL hS) ⟨rfl, va_P.sub hPa [12] rfl⟩ hl.1 (Nat.le_of_ble_eq_true rfl) dX5_init_20 ⟨Nat.le_of_ble_eq_true rfl, Nat.le_of_ble_eq_true rfl⟩) hS (mk_free (L := ([(q, .inr (5, [.ref (y9_0_0 0), .null, .null, .null, .null, .null, .int 0, .int 0]))] ++ stW G y9_0_0 sv0)) hDa (fun z h => hAs z (Nat.le_trans hS.1 h))) (mk_free (L := ([(q, .inr (5, [.ref (y9_0_0 0), .null, .null, .null, .null, .null, .int 0, .int 0]))] ++ stW G y9_0_0 sv0)) hDa (fun z h => hAs z (Nat.le_trans hS.1 h))) (fun H11 locs1 hn _ hk hS1 => ?_)
  obtain ⟨y20_0_0, ey20_0_0, hP1, hD1⟩ := hn
  have hj := mk_join (L := ([(q, .inr (5, [.ref (y9_0_0 0), .null, .null, .null, .null, .null, .int 0, .int 0]))] ++ stW G y9_0_0 sv0)) hPa hDa (fun z h => hAs z (Nat.le_trans hS.1 h)) hk hP1 hD1
  clear hPa hDa hk hP1 hD1 hP hD
  have hS := hS1
  skip
  have hP : PW G ([(q, .inr (5, [.ref (y9_0_0 0), .null, .null, .null, .null, .null, .int 0, .int 0]))] ++ stW G y9_0_0 sv0 ++ stW G y20_0_0 sv0) H11 := hj.1
  have hD : va_D A ([(q, .inr (5, [.ref (y9_0_0 0), .null, .null, .null, .null, .null, .int 0, .int 0]))] ++ stW G y9_0_0 sv0 ++ stW G y20_0_0 sv0) := hj.2
  clear hj hS1
  have hqy20_0_0 : z16_0 = y20_0_0 0 := ey20_0_0.symm
  clear ey20_0_0
  subst hqy20_0_0
  refine pfF (v := .ref (y20_0_0 0)) (tv := .object "HeadDots$State") hC fwX5 (hKN.go hAL hS) hP hD hS 0 rfl rfl 1 (by decide) rfl rfl rfl wd_190 rfl rfl rfl (Nat.le_of_ble_eq_true rfl) dX5_init_23 (fun H12 locs hP1 hS => ?_)
  have hP : PW G ([(q, .inr (5, [.ref (y9_0_0 0), .ref (y20_0_0 0), .null, .null, .null, .null, .int 0, .int 0]))] ++ stW G y9_0_0 sv0 ++ stW G y20_0_0 sv0) H12 := hP1
  have hD : va_D A ([(q, .inr (5, [.ref (y9_0_0 0), .ref (y20_0_0 0), .null, .null, .null, .null, .int 0, .int 0]))] ++ stW G y9_0_0 sv0 ++ stW G y20_0_0 sv0) := va_D_fst hD rfl
  clear hP1
  refine lv_aload_n hC.1 hC.2.1 dX5_init_26 rfl (lv_at hl 0 rfl) ?_
  refine nwO hC (hKN.go hAL hS) hP hD hS hAs fwX2 (ci := 2) rfl wd_23 wd_24 wd_2 (fs := [.null, .null, .null, .null, .null, .int 0, .int 0, .int 0]) (by decide) (Nat.le_of_ble_eq_true rfl) (Nat.le_of_ble_eq_true rfl) dX5_init_27 (fun z27_0 H14 hPa hDa hS hz => ?_)
  refine lv_dup hC.1 hC.2.1 dX5_init_30 rfl ?_
  refine runE (rI (B := fun _ H => H.size = H14.size ∧ PW G [(z27_0, .inr (2, [.null, .null, .null, .null, .null, .int 0, .int 0, .int 0]))] H) (rest := [.ref z27_0, .ref q]) hC mwX2_init (c_X2_init l G z27_0 H14.size hz) rfl wd_26 wd_25 ⟨rfl, rfl⟩ ⟨Nat.le_of_ble_eq_true rfl, Nat.le_of_ble_eq_true rfl⟩ (stb_h (fun H => H.size = H14.size ∧ PW G [(z27_0, .inr (2, [.null, .null, .null, .null, .null, .int 0, .int 0, .int 0]))] H)) (hKN.go hAL hS) ⟨rfl, va_P.sub hPa [23] rfl⟩ hl.1 (Nat.le_of_ble_eq_true rfl) dX5_init_31 ⟨Nat.le_of_ble_eq_true rfl, Nat.le_of_ble_eq_true rfl⟩) hS (mk_free (L := ([(q, .inr (5, [.ref (y9_0_0 0), .ref (y20_0_0 0), .null, .null, .null, .null, .int 0, .int 0]))] ++ stW G y9_0_0 sv0 ++ stW G y20_0_0 sv0)) hDa (fun z h => hAs z (Nat.le_trans hS.1 h))) (mk_free (L := ([(q, .inr (5, [.ref (y9_0_0 0), .ref (y20_0_0 0), .null, .null, .null, .null, .int 0, .int 0]))] ++ stW G y9_0_0 sv0 ++ stW G y20_0_0 sv0)) hDa (fun z h => hAs z (Nat.le_trans hS.1 h))) (fun H16 locs1 hn _ hk hS1 => ?_)
  obtain ⟨y31_0_0, ey31_0_0, hP1, hD1⟩ := hn
  have hj := mk_join (L := ([(q, .inr (5, [.ref (y9_0_0 0), .ref (y20_0_0 0), .null, .null, .null, .null, .int 0, .int 0]))] ++ stW G y9_0_0 sv0 ++ stW G y20_0_0 sv0)) hPa hDa (fun z h => hAs z (Nat.le_trans hS.1 h)) hk hP1 hD1
  clear hPa hDa hk hP1 hD1 hP hD
  have hS := hS1
  skip
  have hP : PW G ([(q, .inr (5, [.ref (y9_0_0 0), .ref (y20_0_0 0), .null, .null, .null, .null, .int 0, .int 0]))] ++ stW G y9_0_0 sv0 ++ stW G y20_0_0 sv0 ++ stW G y31_0_0 sv0) H16 := hj.1
  have hD : va_D A ([(q, .inr (5, [.ref (y9_0_0 0), .ref (y20_0_0 0), .null, .null, .null, .null, .int 0, .int 0]))] ++ stW G y9_0_0 sv0 ++ stW G y20_0_0 sv0 ++ stW G y31_0_0 sv0) := hj.2
  clear hj hS1
  have hqy31_0_0 : z27_0 = y31_0_0 0 := ey31_0_0.symm
  clear ey31_0_0
  subst hqy31_0_0
  refine pfF (v := .ref (y31_0_0 0)) (tv := .object "HeadDots$State") hC fwX5 (hKN.go hAL hS) hP hD hS 0 rfl rfl 2 (by decide) rfl rfl rfl wd_191 rfl rfl rfl (Nat.le_of_ble_eq_true rfl) dX5_init_34 (fun H17 locs hP1 hS => ?_)
  have hP : PW G ([(q, .inr (5, [.ref (y9_0_0 0), .ref (y20_0_0 0), .ref (y31_0_0 0), .null, .null, .null, .int 0, .int 0]))] ++ stW G y9_0_0 sv0 ++ stW G y20_0_0 sv0 ++ stW G y31_0_0 sv0) H17 := hP1
  have hD : va_D A ([(q, .inr (5, [.ref (y9_0_0 0), .ref (y20_0_0 0), .ref (y31_0_0 0), .null, .null, .null, .int 0, .int 0]))] ++ stW G y9_0_0 sv0 ++ stW G y20_0_0 sv0 ++ stW G y31_0_0 sv0) := va_D_fst hD rfl
  clear hP1
  refine lv_aload_n hC.1 hC.2.1 dX5_init_37 rfl (lv_at hl 0 rfl) ?_
  refine lv_bipush (v := 6) hC.1 hC.2.1 dX5_init_38 (by decide +kernel) ?_
  refine nwQ hC (hKN.go hAL hS) hP hD hS hAs wd_23 6 rfl (by decide) (Nat.le_of_ble_eq_true rfl) (Nat.le_of_ble_eq_true rfl) dX5_init_40 (fun z40 H20 hP1 hD1 hS => ?_)
  have hP : PW G ([(q, .inr (5, [.ref (y9_0_0 0), .ref (y20_0_0 0), .ref (y31_0_0 0), .null, .null, .null, .int 0, .int 0]))] ++ stW G y9_0_0 sv0 ++ stW G y20_0_0 sv0 ++ stW G y31_0_0 sv0 ++ [(z40, .inl (gR G, 6, .inr (.inr (.inr (.inr (fun _ => none))))))]) H20 := hP1
  have hD : va_D A ([(q, .inr (5, [.ref (y9_0_0 0), .ref (y20_0_0 0), .ref (y31_0_0 0), .null, .null, .null, .int 0, .int 0]))] ++ stW G y9_0_0 sv0 ++ stW G y20_0_0 sv0 ++ stW G y31_0_0 sv0 ++ [(z40, .inl (gR G, 6, .inr (.inr (.inr (.inr (fun _ => none))))))]) := hD1
  clear hP1
  refine pfF (v := .ref z40) (tv := .array (.object "HeadDots$State")) hC fwX5 (hKN.go hAL hS) hP hD hS 0 rfl rfl 3 (by decide) rfl rfl rfl wd_192 rfl rfl rfl (Nat.le_of_ble_eq_true rfl) dX5_init_43 (fun H21 locs hP1 hS => ?_)
  have hP : PW G ([(q, .inr (5, [.ref (y9_0_0 0), .ref (y20_0_0 0), .ref (y31_0_0 0), .ref z40, .null, .null, .int 0, .int 0]))] ++ stW G y9_0_0 sv0 ++ stW G y20_0_0 sv0 ++ stW G y31_0_0 sv0 ++ [(z40, .inl (gR G, 6, .inr (.inr (.inr (.inr (fun _ => none))))))]) H21 := hP1
  have hD : va_D A ([(q, .inr (5, [.ref (y9_0_0 0), .ref (y20_0_0 0), .ref (y31_0_0 0), .ref z40, .null, .null, .int 0, .int 0]))] ++ stW G y9_0_0 sv0 ++ stW G y20_0_0 sv0 ++ stW G y31_0_0 sv0 ++ [(z40, .inl (gR G, 6, .inr (.inr (.inr (.inr (fun _ => none))))))]) := va_D_fst hD rfl
  clear hP1
  refine lv_iconst (v := 0) hC.1 hC.2.1 dX5_init_46 (by decide) ?_
  refine lv_istore_n (lv' := [(1, .int 0), (0, .ref q)]) hC.1 hC.2.1 dX5_init_47 rfl hl (by decide) rfl (fun ls hl => ?_)
  refine lv_iload_n hC.1 hC.2.1 dX5_init_48 rfl (lv_at hl 0 rfl) ?_
  refine lv_aload_n hC.1 hC.2.1 dX5_init_49 rfl (lv_at hl 1 rfl) ?_
  refine gf (v := .ref z40) hC fwX5 (hKN.go hAL hS) hP 0 rfl rfl 3 (by decide) rfl wd_192 rfl dX5_init_50 ?_
  refine alen_q hC (hKN.go hAL hS) hP 34 rfl dX5_init_53 ?_
  refine lv_icmp_ge (tgt := 76) hC.1 hC.2.1 dX5_init_54 (by decide) (fun kt => absurd kt (by decide)) (fun _ => ?_)
  refine lv_aload_n hC.1 hC.2.1 dX5_init_57 rfl (lv_at hl 1 rfl) ?_
  refine gf (v := .ref z40) hC fwX5 (hKN.go hAL hS) hP 0 rfl rfl 3 (by decide) rfl wd_192 rfl dX5_init_58 ?_
  refine lv_iload_n hC.1 hC.2.1 dX5_init_61 rfl (lv_at hl 0 rfl) ?_
  refine nwO hC (hKN.go hAL hS) hP hD hS hAs fwX2 (ci := 2) rfl wd_23 wd_24 wd_2 (fs := [.null, .null, .null, .null, .null, .int 0, .int 0, .int 0]) (by decide) (Nat.le_of_ble_eq_true rfl) (Nat.le_of_ble_eq_true rfl) dX5_init_62 (fun z62_0 H32 hPa hDa hS hz => ?_)
  refine lv_dup hC.1 hC.2.1 dX5_init_65 rfl ?_
  refine runE (rI (B := fun _ H => H.size = H32.size ∧ PW G [(z62_0, .inr (2, [.null, .null, .null, .null, .null, .int 0, .int 0, .int 0]))] H) (rest := [.ref z62_0, .int 0, .ref z40]) hC mwX2_init (c_X2_init l G z62_0 H32.size hz) rfl wd_26 wd_25 ⟨rfl, rfl⟩ ⟨Nat.le_of_ble_eq_true rfl, Nat.le_of_ble_eq_true rfl⟩ (stb_h (fun H => H.size = H32.size ∧ PW G [(z62_0, .inr (2, [.null, .null, .null, .null, .null, .int 0, .int 0, .int 0]))] H)) (hKN.go hAL hS) ⟨rfl, va_P.sub hPa [35] rfl⟩ hl.1 (Nat.le_of_ble_eq_true rfl) dX5_init_66 ⟨Nat.le_of_ble_eq_true rfl, Nat.le_of_ble_eq_true rfl⟩) hS (mk_free (L := ([(q, .inr (5, [.ref (y9_0_0 0), .ref (y20_0_0 0), .ref (y31_0_0 0), .ref z40, .null, .null, .int 0, .int 0]))] ++ stW G y9_0_0 sv0 ++ stW G y20_0_0 sv0 ++ stW G y31_0_0 sv0 ++ [(z40, .inl (gR G, 6, .inr (.inr (.inr (.inr (fun _ => none))))))])) hDa (fun z h => hAs z (Nat.le_trans hS.1 h))) (mk_free (L := ([(q, .inr (5, [.ref (y9_0_0 0), .ref (y20_0_0 0), .ref (y31_0_0 0), .ref z40, .null, .null, .int 0, .int 0]))] ++ stW G y9_0_0 sv0 ++ stW G y20_0_0 sv0 ++ stW G y31_0_0 sv0 ++ [(z40, .inl (gR G, 6, .inr (.inr (.inr (.inr (fun _ => none))))))])) hDa (fun z h => hAs z (Nat.le_trans hS.1 h))) (fun H34 locs1 hn _ hk hS1 => ?_)
  obtain ⟨y66_0_0, ey66_0_0, hP1, hD1⟩ := hn
  have hj := mk_join (L := ([(q, .inr (5, [.ref (y9_0_0 0), .ref (y20_0_0 0), .ref (y31_0_0 0), .ref z40, .null, .null, .int 0, .int 0]))] ++ stW G y9_0_0 sv0 ++ stW G y20_0_0 sv0 ++ stW G y31_0_0 sv0 ++ [(z40, .inl (gR G, 6, .inr (.inr (.inr (.inr (fun _ => none))))))])) hPa hDa (fun z h => hAs z (Nat.le_trans hS.1 h)) hk hP1 hD1
  clear hPa hDa hk hP1 hD1 hP hD
  have hS := hS1
  skip
  have hP : PW G ([(q, .inr (5, [.ref (y9_0_0 0), .ref (y20_0_0 0), .ref (y31_0_0 0), .ref z40, .null, .null, .int 0, .int 0]))] ++ stW G y9_0_0 sv0 ++ stW G y20_0_0 sv0 ++ stW G y31_0_0 sv0 ++ [(z40, .inl (gR G, 6, .inr (.inr (.inr (.inr (fun _ => none))))))] ++ stW G y66_0_0 sv0) H34 := hj.1
  have hD : va_D A ([(q, .inr (5, [.ref (y9_0_0 0), .ref (y20_0_0 0), .ref (y31_0_0 0), .ref z40, .null, .null, .int 0, .int 0]))] ++ stW G y9_0_0 sv0 ++ stW G y20_0_0 sv0 ++ stW G y31_0_0 sv0 ++ [(z40, .inl (gR G, 6, .inr (.inr (.inr (.inr (fun _ => none))))))] ++ stW G y66_0_0 sv0) := hj.2
  clear hj hS1
  have hqy66_0_0 : z62_0 = y66_0_0 0 := ey66_0_0.symm
  clear ey66_0_0
  subst hqy66_0_0
  refine va_astq hC.1 hC.2.1 (KN.k (hKN.go hAL hS)) hP hD hS 34 1 35 2 (r := ("HeadDots$State", TX2, 8)) rfl rfl rfl rfl (show vp_in (nI 0) 6 from vp_in_nI (by decide) (by decide)) dX5_init_69 (fun H35 locs hP1 _ hS => ?_)
  have hP : PW G ([(q, .inr (5, [.ref (y9_0_0 0), .ref (y20_0_0 0), .ref (y31_0_0 0), .ref z40, .null, .null, .int 0, .int 0]))] ++ stW G y9_0_0 sv0 ++ stW G y20_0_0 sv0 ++ stW G y31_0_0 sv0 ++ [(z40, .inl (gR G, 6, .inr (.inr (.inr (.inr (va_up (fun _ => none) 0 (some (y66_0_0 0))))))))] ++ stW G y66_0_0 sv0) H35 := hP1
  have hD : va_D A ([(q, .inr (5, [.ref (y9_0_0 0), .ref (y20_0_0 0), .ref (y31_0_0 0), .ref z40, .null, .null, .int 0, .int 0]))] ++ stW G y9_0_0 sv0 ++ stW G y20_0_0 sv0 ++ stW G y31_0_0 sv0 ++ [(z40, .inl (gR G, 6, .inr (.inr (.inr (.inr (va_up (fun _ => none) 0 (some (y66_0_0 0))))))))] ++ stW G y66_0_0 sv0) := va_D_fst hD rfl
  clear hP1
  refine lv_iinc (v := 1) (lv' := [(1, .int 1), (0, .ref q)]) hC.1 hC.2.1 dX5_init_70 hl (k := 0) rfl (by decide) (by decide) rfl (fun ls hl => ?_)
  refine lv_goto (tgt := 48) hC.1 hC.2.1 dX5_init_73 (by decide) ?_
  refine lv_iload_n hC.1 hC.2.1 dX5_init_48 rfl (lv_at hl 0 rfl) ?_
  refine lv_aload_n hC.1 hC.2.1 dX5_init_49 rfl (lv_at hl 1 rfl) ?_
  refine gf (v := .ref z40) hC fwX5 (hKN.go hAL hS) hP 0 rfl rfl 3 (by decide) rfl wd_192 rfl dX5_init_50 ?_
  refine alen_q hC (hKN.go hAL hS) hP 34 rfl dX5_init_53 ?_
  refine lv_icmp_ge (tgt := 76) hC.1 hC.2.1 dX5_init_54 (by decide) (fun kt => absurd kt (by decide)) (fun _ => ?_)
  refine lv_aload_n hC.1 hC.2.1 dX5_init_57 rfl (lv_at hl 1 rfl) ?_
  refine gf (v := .ref z40) hC fwX5 (hKN.go hAL hS) hP 0 rfl rfl 3 (by decide) rfl wd_192 rfl dX5_init_58 ?_
  refine lv_iload_n hC.1 hC.2.1 dX5_init_61 rfl (lv_at hl 0 rfl) ?_
  refine nwO hC (hKN.go hAL hS) hP hD hS hAs fwX2 (ci := 2) rfl wd_23 wd_24 wd_2 (fs := [.null, .null, .null, .null, .null, .int 0, .int 0, .int 0]) (by decide) (Nat.le_of_ble_eq_true rfl) (Nat.le_of_ble_eq_true rfl) dX5_init_62 (fun z62_1 H46 hPa hDa hS hz => ?_)
  refine lv_dup hC.1 hC.2.1 dX5_init_65 rfl ?_
  refine runE (rI (B := fun _ H => H.size = H46.size ∧ PW G [(z62_1, .inr (2, [.null, .null, .null, .null, .null, .int 0, .int 0, .int 0]))] H) (rest := [.ref z62_1, .int 1, .ref z40]) hC mwX2_init (c_X2_init l G z62_1 H46.size hz) rfl wd_26 wd_25 ⟨rfl, rfl⟩ ⟨Nat.le_of_ble_eq_true rfl, Nat.le_of_ble_eq_true rfl⟩ (stb_h (fun H => H.size = H46.size ∧ PW G [(z62_1, .inr (2, [.null, .null, .null, .null, .null, .int 0, .int 0, .int 0]))] H)) (hKN.go hAL hS) ⟨rfl, va_P.sub hPa [46] rfl⟩ hl.1 (Nat.le_of_ble_eq_true rfl) dX5_init_66 ⟨Nat.le_of_ble_eq_true rfl, Nat.le_of_ble_eq_true rfl⟩) hS (mk_free (L := ([(q, .inr (5, [.ref (y9_0_0 0), .ref (y20_0_0 0), .ref (y31_0_0 0), .ref z40, .null, .null, .int 0, .int 0]))] ++ stW G y9_0_0 sv0 ++ stW G y20_0_0 sv0 ++ stW G y31_0_0 sv0 ++ [(z40, .inl (gR G, 6, .inr (.inr (.inr (.inr (va_up (fun _ => none) 0 (some (y66_0_0 0))))))))] ++ stW G y66_0_0 sv0)) hDa (fun z h => hAs z (Nat.le_trans hS.1 h))) (mk_free (L := ([(q, .inr (5, [.ref (y9_0_0 0), .ref (y20_0_0 0), .ref (y31_0_0 0), .ref z40, .null, .null, .int 0, .int 0]))] ++ stW G y9_0_0 sv0 ++ stW G y20_0_0 sv0 ++ stW G y31_0_0 sv0 ++ [(z40, .inl (gR G, 6, .inr (.inr (.inr (.inr (va_up (fun _ => none) 0 (some (y66_0_0 0))))))))] ++ stW G y66_0_0 sv0)) hDa (fun z h => hAs z (Nat.le_trans hS.1 h))) (fun H48 locs1 hn _ hk hS1 => ?_)
  obtain ⟨y66_1_0, ey66_1_0, hP1, hD1⟩ := hn
  have hj := mk_join (L := ([(q, .inr (5, [.ref (y9_0_0 0), .ref (y20_0_0 0), .ref (y31_0_0 0), .ref z40, .null, .null, .int 0, .int 0]))] ++ stW G y9_0_0 sv0 ++ stW G y20_0_0 sv0 ++ stW G y31_0_0 sv0 ++ [(z40, .inl (gR G, 6, .inr (.inr (.inr (.inr (va_up (fun _ => none) 0 (some (y66_0_0 0))))))))] ++ stW G y66_0_0 sv0)) hPa hDa (fun z h => hAs z (Nat.le_trans hS.1 h)) hk hP1 hD1
  clear hPa hDa hk hP1 hD1 hP hD
  have hS := hS1
  skip
  have hP : PW G ([(q, .inr (5, [.ref (y9_0_0 0), .ref (y20_0_0 0), .ref (y31_0_0 0), .ref z40, .null, .null, .int 0, .int 0]))] ++ stW G y9_0_0 sv0 ++ stW G y20_0_0 sv0 ++ stW G y31_0_0 sv0 ++ [(z40, .inl (gR G, 6, .inr (.inr (.inr (.inr (va_up (fun _ => none) 0 (some (y66_0_0 0))))))))] ++ stW G y66_0_0 sv0 ++ stW G y66_1_0 sv0) H48 := hj.1
  have hD : va_D A ([(q, .inr (5, [.ref (y9_0_0 0), .ref (y20_0_0 0), .ref (y31_0_0 0), .ref z40, .null, .null, .int 0, .int 0]))] ++ stW G y9_0_0 sv0 ++ stW G y20_0_0 sv0 ++ stW G y31_0_0 sv0 ++ [(z40, .inl (gR G, 6, .inr (.inr (.inr (.inr (va_up (fun _ => none) 0 (some (y66_0_0 0))))))))] ++ stW G y66_0_0 sv0 ++ stW G y66_1_0 sv0) := hj.2
  clear hj hS1
  have hqy66_1_0 : z62_1 = y66_1_0 0 := ey66_1_0.symm
  clear ey66_1_0
  subst hqy66_1_0
  refine va_astq hC.1 hC.2.1 (KN.k (hKN.go hAL hS)) hP hD hS 34 1 46 2 (r := ("HeadDots$State", TX2, 8)) rfl rfl rfl rfl (show vp_in (nI 1) 6 from vp_in_nI (by decide) (by decide)) dX5_init_69 (fun H49 locs hP1 _ hS => ?_)
  have hP : PW G ([(q, .inr (5, [.ref (y9_0_0 0), .ref (y20_0_0 0), .ref (y31_0_0 0), .ref z40, .null, .null, .int 0, .int 0]))] ++ stW G y9_0_0 sv0 ++ stW G y20_0_0 sv0 ++ stW G y31_0_0 sv0 ++ [(z40, .inl (gR G, 6, .inr (.inr (.inr (.inr (va_up (va_up (fun _ => none) 0 (some (y66_0_0 0))) 1 (some (y66_1_0 0))))))))] ++ stW G y66_0_0 sv0 ++ stW G y66_1_0 sv0) H49 := hP1
  have hD : va_D A ([(q, .inr (5, [.ref (y9_0_0 0), .ref (y20_0_0 0), .ref (y31_0_0 0), .ref z40, .null, .null, .int 0, .int 0]))] ++ stW G y9_0_0 sv0 ++ stW G y20_0_0 sv0 ++ stW G y31_0_0 sv0 ++ [(z40, .inl (gR G, 6, .inr (.inr (.inr (.inr (va_up (va_up (fun _ => none) 0 (some (y66_0_0 0))) 1 (some (y66_1_0 0))))))))] ++ stW G y66_0_0 sv0 ++ stW G y66_1_0 sv0) := va_D_fst hD rfl
  clear hP1
  refine lv_iinc (v := 2) (lv' := [(1, .int 2), (0, .ref q)]) hC.1 hC.2.1 dX5_init_70 hl (k := 0) rfl (by decide) (by decide) rfl (fun ls hl => ?_)
  refine lv_goto (tgt := 48) hC.1 hC.2.1 dX5_init_73 (by decide) ?_
  refine lv_iload_n hC.1 hC.2.1 dX5_init_48 rfl (lv_at hl 0 rfl) ?_
  refine lv_aload_n hC.1 hC.2.1 dX5_init_49 rfl (lv_at hl 1 rfl) ?_
  refine gf (v := .ref z40) hC fwX5 (hKN.go hAL hS) hP 0 rfl rfl 3 (by decide) rfl wd_192 rfl dX5_init_50 ?_
  refine alen_q hC (hKN.go hAL hS) hP 34 rfl dX5_init_53 ?_
  refine lv_icmp_ge (tgt := 76) hC.1 hC.2.1 dX5_init_54 (by decide) (fun kt => absurd kt (by decide)) (fun _ => ?_)
  refine lv_aload_n hC.1 hC.2.1 dX5_init_57 rfl (lv_at hl 1 rfl) ?_
  refine gf (v := .ref z40) hC fwX5 (hKN.go hAL hS) hP 0 rfl rfl 3 (by decide) rfl wd_192 rfl dX5_init_58 ?_
  refine lv_iload_n hC.1 hC.2.1 dX5_init_61 rfl (lv_at hl 0 rfl) ?_
  refine nwO hC (hKN.go hAL hS) hP hD hS hAs fwX2 (ci := 2) rfl wd_23 wd_24 wd_2 (fs := [.null, .null, .null, .null, .null, .int 0, .int 0, .int 0]) (by decide) (Nat.le_of_ble_eq_true rfl) (Nat.le_of_ble_eq_true rfl) dX5_init_62 (fun z62_2 H60 hPa hDa hS hz => ?_)
  refine lv_dup hC.1 hC.2.1 dX5_init_65 rfl ?_
  refine runE (rI (B := fun _ H => H.size = H60.size ∧ PW G [(z62_2, .inr (2, [.null, .null, .null, .null, .null, .int 0, .int 0, .int 0]))] H) (rest := [.ref z62_2, .int 2, .ref z40]) hC mwX2_init (c_X2_init l G z62_2 H60.size hz) rfl wd_26 wd_25 ⟨rfl, rfl⟩ ⟨Nat.le_of_ble_eq_true rfl, Nat.le_of_ble_eq_true rfl⟩ (stb_h (fun H => H.size = H60.size ∧ PW G [(z62_2, .inr (2, [.null, .null, .null, .null, .null, .int 0, .int 0, .int 0]))] H)) (hKN.go hAL hS) ⟨rfl, va_P.sub hPa [57] rfl⟩ hl.1 (Nat.le_of_ble_eq_true rfl) dX5_init_66 ⟨Nat.le_of_ble_eq_true rfl, Nat.le_of_ble_eq_true rfl⟩) hS (mk_free (L := ([(q, .inr (5, [.ref (y9_0_0 0), .ref (y20_0_0 0), .ref (y31_0_0 0), .ref z40, .null, .null, .int 0, .int 0]))] ++ stW G y9_0_0 sv0 ++ stW G y20_0_0 sv0 ++ stW G y31_0_0 sv0 ++ [(z40, .inl (gR G, 6, .inr (.inr (.inr (.inr (va_up (va_up (fun _ => none) 0 (some (y66_0_0 0))) 1 (some (y66_1_0 0))))))))] ++ stW G y66_0_0 sv0 ++ stW G y66_1_0 sv0)) hDa (fun z h => hAs z (Nat.le_trans hS.1 h))) (mk_free (L := ([(q, .inr (5, [.ref (y9_0_0 0), .ref (y20_0_0 0), .ref (y31_0_0 0), .ref z40, .null, .null, .int 0, .int 0]))] ++ stW G y9_0_0 sv0 ++ stW G y20_0_0 sv0 ++ stW G y31_0_0 sv0 ++ [(z40, .inl (gR G, 6, .inr (.inr (.inr (.inr (va_up (va_up (fun _ => none) 0 (some (y66_0_0 0))) 1 (some (y66_1_0 0))))))))] ++ stW G y66_0_0 sv0 ++ stW G y66_1_0 sv0)) hDa (fun z h => hAs z (Nat.le_trans hS.1 h))) (fun H62 locs1 hn _ hk hS1 => ?_)
  obtain ⟨y66_2_0, ey66_2_0, hP1, hD1⟩ := hn
  have hj := mk_join (L := ([(q, .inr (5, [.ref (y9_0_0 0), .ref (y20_0_0 0), .ref (y31_0_0 0), .ref z40, .null, .null, .int 0, .int 0]))] ++ stW G y9_0_0 sv0 ++ stW G y20_0_0 sv0 ++ stW G y31_0_0 sv0 ++ [(z40, .inl (gR G, 6, .inr (.inr (.inr (.inr (va_up (va_up (fun _ => none) 0 (some (y66_0_0 0))) 1 (some (y66_1_0 0))))))))] ++ stW G y66_0_0 sv0 ++ stW G y66_1_0 sv0)) hPa hDa (fun z h => hAs z (Nat.le_trans hS.1 h)) hk hP1 hD1
  clear hPa hDa hk hP1 hD1 hP hD
  have hS := hS1
  skip
  have hP : PW G ([(q, .inr (5, [.ref (y9_0_0 0), .ref (y20_0_0 0), .ref (y31_0_0 0), .ref z40, .null, .null, .int 0, .int 0]))] ++ stW G y9_0_0 sv0 ++ stW G y20_0_0 sv0 ++ stW G y31_0_0 sv0 ++ [(z40, .inl (gR G, 6, .inr (.inr (.inr (.inr (va_up (va_up (fun _ => none) 0 (some (y66_0_0 0))) 1 (some (y66_1_0 0))))))))] ++ stW G y66_0_0 sv0 ++ stW G y66_1_0 sv0 ++ stW G y66_2_0 sv0) H62 := hj.1
  have hD : va_D A ([(q, .inr (5, [.ref (y9_0_0 0), .ref (y20_0_0 0), .ref (y31_0_0 0), .ref z40, .null, .null, .int 0, .int 0]))] ++ stW G y9_0_0 sv0 ++ stW G y20_0_0 sv0 ++ stW G y31_0_0 sv0 ++ [(z40, .inl (gR G, 6, .inr (.inr (.inr (.inr (va_up (va_up (fun _ => none) 0 (some (y66_0_0 0))) 1 (some (y66_1_0 0))))))))] ++ stW G y66_0_0 sv0 ++ stW G y66_1_0 sv0 ++ stW G y66_2_0 sv0) := hj.2
  clear hj hS1
  have hqy66_2_0 : z62_2 = y66_2_0 0 := ey66_2_0.symm
  clear ey66_2_0
  subst hqy66_2_0
  refine va_astq hC.1 hC.2.1 (KN.k (hKN.go hAL hS)) hP hD hS 34 1 57 2 (r := ("HeadDots$State", TX2, 8)) rfl rfl rfl rfl (show vp_in (nI 2) 6 from vp_in_nI (by decide) (by decide)) dX5_init_69 (fun H63 locs hP1 _ hS => ?_)
  have hP : PW G ([(q, .inr (5, [.ref (y9_0_0 0), .ref (y20_0_0 0), .ref (y31_0_0 0), .ref z40, .null, .null, .int 0, .int 0]))] ++ stW G y9_0_0 sv0 ++ stW G y20_0_0 sv0 ++ stW G y31_0_0 sv0 ++ [(z40, .inl (gR G, 6, .inr (.inr (.inr (.inr (va_up (va_up (va_up (fun _ => none) 0 (some (y66_0_0 0))) 1 (some (y66_1_0 0))) 2 (some (y66_2_0 0))))))))] ++ stW G y66_0_0 sv0 ++ stW G y66_1_0 sv0 ++ stW G y66_2_0 sv0) H63 := hP1
  have hD : va_D A ([(q, .inr (5, [.ref (y9_0_0 0), .ref (y20_0_0 0), .ref (y31_0_0 0), .ref z40, .null, .null, .int 0, .int 0]))] ++ stW G y9_0_0 sv0 ++ stW G y20_0_0 sv0 ++ stW G y31_0_0 sv0 ++ [(z40, .inl (gR G, 6, .inr (.inr (.inr (.inr (va_up (va_up (va_up (fun _ => none) 0 (some (y66_0_0 0))) 1 (some (y66_1_0 0))) 2 (some (y66_2_0 0))))))))] ++ stW G y66_0_0 sv0 ++ stW G y66_1_0 sv0 ++ stW G y66_2_0 sv0) := va_D_fst hD rfl
  clear hP1
  refine lv_iinc (v := 3) (lv' := [(1, .int 3), (0, .ref q)]) hC.1 hC.2.1 dX5_init_70 hl (k := 0) rfl (by decide) (by decide) rfl (fun ls hl => ?_)
  refine lv_goto (tgt := 48) hC.1 hC.2.1 dX5_init_73 (by decide) ?_
  refine lv_iload_n hC.1 hC.2.1 dX5_init_48 rfl (lv_at hl 0 rfl) ?_
  refine lv_aload_n hC.1 hC.2.1 dX5_init_49 rfl (lv_at hl 1 rfl) ?_
  refine gf (v := .ref z40) hC fwX5 (hKN.go hAL hS) hP 0 rfl rfl 3 (by decide) rfl wd_192 rfl dX5_init_50 ?_
  refine alen_q hC (hKN.go hAL hS) hP 34 rfl dX5_init_53 ?_
  refine lv_icmp_ge (tgt := 76) hC.1 hC.2.1 dX5_init_54 (by decide) (fun kt => absurd kt (by decide)) (fun _ => ?_)
  refine lv_aload_n hC.1 hC.2.1 dX5_init_57 rfl (lv_at hl 1 rfl) ?_
  refine gf (v := .ref z40) hC fwX5 (hKN.go hAL hS) hP 0 rfl rfl 3 (by decide) rfl wd_192 rfl dX5_init_58 ?_
  refine lv_iload_n hC.1 hC.2.1 dX5_init_61 rfl (lv_at hl 0 rfl) ?_
  refine nwO hC (hKN.go hAL hS) hP hD hS hAs fwX2 (ci := 2) rfl wd_23 wd_24 wd_2 (fs := [.null, .null, .null, .null, .null, .int 0, .int 0, .int 0]) (by decide) (Nat.le_of_ble_eq_true rfl) (Nat.le_of_ble_eq_true rfl) dX5_init_62 (fun z62_3 H74 hPa hDa hS hz => ?_)
  refine lv_dup hC.1 hC.2.1 dX5_init_65 rfl ?_
  refine runE (rI (B := fun _ H => H.size = H74.size ∧ PW G [(z62_3, .inr (2, [.null, .null, .null, .null, .null, .int 0, .int 0, .int 0]))] H) (rest := [.ref z62_3, .int 3, .ref z40]) hC mwX2_init (c_X2_init l G z62_3 H74.size hz) rfl wd_26 wd_25 ⟨rfl, rfl⟩ ⟨Nat.le_of_ble_eq_true rfl, Nat.le_of_ble_eq_true rfl⟩ (stb_h (fun H => H.size = H74.size ∧ PW G [(z62_3, .inr (2, [.null, .null, .null, .null, .null, .int 0, .int 0, .int 0]))] H)) (hKN.go hAL hS) ⟨rfl, va_P.sub hPa [68] rfl⟩ hl.1 (Nat.le_of_ble_eq_true rfl) dX5_init_66 ⟨Nat.le_of_ble_eq_true rfl, Nat.le_of_ble_eq_true rfl⟩) hS (mk_free (L := ([(q, .inr (5, [.ref (y9_0_0 0), .ref (y20_0_0 0), .ref (y31_0_0 0), .ref z40, .null, .null, .int 0, .int 0]))] ++ stW G y9_0_0 sv0 ++ stW G y20_0_0 sv0 ++ stW G y31_0_0 sv0 ++ [(z40, .inl (gR G, 6, .inr (.inr (.inr (.inr (va_up (va_up (va_up (fun _ => none) 0 (some (y66_0_0 0))) 1 (some (y66_1_0 0))) 2 (some (y66_2_0 0))))))))] ++ stW G y66_0_0 sv0 ++ stW G y66_1_0 sv0 ++ stW G y66_2_0 sv0)) hDa (fun z h => hAs z (Nat.le_trans hS.1 h))) (mk_free (L := ([(q, .inr (5, [.ref (y9_0_0 0), .ref (y20_0_0 0), .ref (y31_0_0 0), .ref z40, .null, .null, .int 0, .int 0]))] ++ stW G y9_0_0 sv0 ++ stW G y20_0_0 sv0 ++ stW G y31_0_0 sv0 ++ [(z40, .inl (gR G, 6, .inr (.inr (.inr (.inr (va_up (va_up (va_up (fun _ => none) 0 (some (y66_0_0 0))) 1 (some (y66_1_0 0))) 2 (some (y66_2_0 0))))))))] ++ stW G y66_0_0 sv0 ++ stW G y66_1_0 sv0 ++ stW G y66_2_0 sv0)) hDa (fun z h => hAs z (Nat.le_trans hS.1 h))) (fun H76 locs1 hn _ hk hS1 => ?_)
  obtain ⟨y66_3_0, ey66_3_0, hP1, hD1⟩ := hn
  have hj := mk_join (L := ([(q, .inr (5, [.ref (y9_0_0 0), .ref (y20_0_0 0), .ref (y31_0_0 0), .ref z40, .null, .null, .int 0, .int 0]))] ++ stW G y9_0_0 sv0 ++ stW G y20_0_0 sv0 ++ stW G y31_0_0 sv0 ++ [(z40, .inl (gR G, 6, .inr (.inr (.inr (.inr (va_up (va_up (va_up (fun _ => none) 0 (some (y66_0_0 0))) 1 (some (y66_1_0 0))) 2 (some (y66_2_0 0))))))))] ++ stW G y66_0_0 sv0 ++ stW G y66_1_0 sv0 ++ stW G y66_2_0 sv0)) hPa hDa (fun z h => hAs z (Nat.le_trans hS.1 h)) hk hP1 hD1
  clear hPa hDa hk hP1 hD1 hP hD
  have hS := hS1
  skip
  have hP : PW G ([(q, .inr (5, [.ref (y9_0_0 0), .ref (y20_0_0 0), .ref (y31_0_0 0), .ref z40, .null, .null, .int 0, .int 0]))] ++ stW G y9_0_0 sv0 ++ stW G y20_0_0 sv0 ++ stW G y31_0_0 sv0 ++ [(z40, .inl (gR G, 6, .inr (.inr (.inr (.inr (va_up (va_up (va_up (fun _ => none) 0 (some (y66_0_0 0))) 1 (some (y66_1_0 0))) 2 (some (y66_2_0 0))))))))] ++ stW G y66_0_0 sv0 ++ stW G y66_1_0 sv0 ++ stW G y66_2_0 sv0 ++ stW G y66_3_0 sv0) H76 := hj.1
  have hD : va_D A ([(q, .inr (5, [.ref (y9_0_0 0), .ref (y20_0_0 0), .ref (y31_0_0 0), .ref z40, .null, .null, .int 0, .int 0]))] ++ stW G y9_0_0 sv0 ++ stW G y20_0_0 sv0 ++ stW G y31_0_0 sv0 ++ [(z40, .inl (gR G, 6, .inr (.inr (.inr (.inr (va_up (va_up (va_up (fun _ => none) 0 (some (y66_0_0 0))) 1 (some (y66_1_0 0))) 2 (some (y66_2_0 0))))))))] ++ stW G y66_0_0 sv0 ++ stW G y66_1_0 sv0 ++ stW G y66_2_0 sv0 ++ stW G y66_3_0 sv0) := hj.2
  clear hj hS1
  have hqy66_3_0 : z62_3 = y66_3_0 0 := ey66_3_0.symm
  clear ey66_3_0
  subst hqy66_3_0
  refine va_astq hC.1 hC.2.1 (KN.k (hKN.go hAL hS)) hP hD hS 34 1 68 2 (r := ("HeadDots$State", TX2, 8)) rfl rfl rfl rfl (show vp_in (nI 3) 6 from vp_in_nI (by decide) (by decide)) dX5_init_69 (fun H77 locs hP1 _ hS => ?_)
  have hP : PW G ([(q, .inr (5, [.ref (y9_0_0 0), .ref (y20_0_0 0), .ref (y31_0_0 0), .ref z40, .null, .null, .int 0, .int 0]))] ++ stW G y9_0_0 sv0 ++ stW G y20_0_0 sv0 ++ stW G y31_0_0 sv0 ++ [(z40, .inl (gR G, 6, .inr (.inr (.inr (.inr (va_up (va_up (va_up (va_up (fun _ => none) 0 (some (y66_0_0 0))) 1 (some (y66_1_0 0))) 2 (some (y66_2_0 0))) 3 (some (y66_3_0 0))))))))] ++ stW G y66_0_0 sv0 ++ stW G y66_1_0 sv0 ++ stW G y66_2_0 sv0 ++ stW G y66_3_0 sv0) H77 := hP1
  have hD : va_D A ([(q, .inr (5, [.ref (y9_0_0 0), .ref (y20_0_0 0), .ref (y31_0_0 0), .ref z40, .null, .null, .int 0, .int 0]))] ++ stW G y9_0_0 sv0 ++ stW G y20_0_0 sv0 ++ stW G y31_0_0 sv0 ++ [(z40, .inl (gR G, 6, .inr (.inr (.inr (.inr (va_up (va_up (va_up (va_up (fun _ => none) 0 (some (y66_0_0 0))) 1 (some (y66_1_0 0))) 2 (some (y66_2_0 0))) 3 (some (y66_3_0 0))))))))] ++ stW G y66_0_0 sv0 ++ stW G y66_1_0 sv0 ++ stW G y66_2_0 sv0 ++ stW G y66_3_0 sv0) := va_D_fst hD rfl
  clear hP1
  refine lv_iinc (v := 4) (lv' := [(1, .int 4), (0, .ref q)]) hC.1 hC.2.1 dX5_init_70 hl (k := 0) rfl (by decide) (by decide) rfl (fun ls hl => ?_)
  refine lv_goto (tgt := 48) hC.1 hC.2.1 dX5_init_73 (by decide) ?_
  refine lv_iload_n hC.1 hC.2.1 dX5_init_48 rfl (lv_at hl 0 rfl) ?_
  refine lv_aload_n hC.1 hC.2.1 dX5_init_49 rfl (lv_at hl 1 rfl) ?_
  refine gf (v := .ref z40) hC fwX5 (hKN.go hAL hS) hP 0 rfl rfl 3 (by decide) rfl wd_192 rfl dX5_init_50 ?_
  refine alen_q hC (hKN.go hAL hS) hP 34 rfl dX5_init_53 ?_
  refine lv_icmp_ge (tgt := 76) hC.1 hC.2.1 dX5_init_54 (by decide) (fun kt => absurd kt (by decide)) (fun _ => ?_)
  refine lv_aload_n hC.1 hC.2.1 dX5_init_57 rfl (lv_at hl 1 rfl) ?_
  refine gf (v := .ref z40) hC fwX5 (hKN.go hAL hS) hP 0 rfl rfl 3 (by decide) rfl wd_192 rfl dX5_init_58 ?_
  refine lv_iload_n hC.1 hC.2.1 dX5_init_61 rfl (lv_at hl 0 rfl) ?_
  refine nwO hC (hKN.go hAL hS) hP hD hS hAs fwX2 (ci := 2) rfl wd_23 wd_24 wd_2 (fs := [.null, .null, .null, .null, .null, .int 0, .int 0, .int 0]) (by decide) (Nat.le_of_ble_eq_true rfl) (Nat.le_of_ble_eq_true rfl) dX5_init_62 (fun z62_4 H88 hPa hDa hS hz => ?_)
  refine lv_dup hC.1 hC.2.1 dX5_init_65 rfl ?_
  refine runE (rI (B := fun _ H => H.size = H88.size ∧ PW G [(z62_4, .inr (2, [.null, .null, .null, .null, .null, .int 0, .int 0, .int 0]))] H) (rest := [.ref z62_4, .int 4, .ref z40]) hC mwX2_init (c_X2_init l G z62_4 H88.size hz) rfl wd_26 wd_25 ⟨rfl, rfl⟩ ⟨Nat.le_of_ble_eq_true rfl, Nat.le_of_ble_eq_true rfl⟩ (stb_h (fun H => H.size = H88.size ∧ PW G [(z62_4, .inr (2, [.null, .null, .null, .null, .null, .int 0, .int 0, .int 0]))] H)) (hKN.go hAL hS) ⟨rfl, va_P.sub hPa [79] rfl⟩ hl.1 (Nat.le_of_ble_eq_true rfl) dX5_init_66 ⟨Nat.le_of_ble_eq_true rfl, Nat.le_of_ble_eq_true rfl⟩) hS (mk_free (L := ([(q, .inr (5, [.ref (y9_0_0 0), .ref (y20_0_0 0), .ref (y31_0_0 0), .ref z40, .null, .null, .int 0, .int 0]))] ++ stW G y9_0_0 sv0 ++ stW G y20_0_0 sv0 ++ stW G y31_0_0 sv0 ++ [(z40, .inl (gR G, 6, .inr (.inr (.inr (.inr (va_up (va_up (va_up (va_up (fun _ => none) 0 (some (y66_0_0 0))) 1 (some (y66_1_0 0))) 2 (some (y66_2_0 0))) 3 (some (y66_3_0 0))))))))] ++ stW G y66_0_0 sv0 ++ stW G y66_1_0 sv0 ++ stW G y66_2_0 sv0 ++ stW G y66_3_0 sv0)) hDa (fun z h => hAs z (Nat.le_trans hS.1 h))) (mk_free (L := ([(q, .inr (5, [.ref (y9_0_0 0), .ref (y20_0_0 0), .ref (y31_0_0 0), .ref z40, .null, .null, .int 0, .int 0]))] ++ stW G y9_0_0 sv0 ++ stW G y20_0_0 sv0 ++ stW G y31_0_0 sv0 ++ [(z40, .inl (gR G, 6, .inr (.inr (.inr (.inr (va_up (va_up (va_up (va_up (fun _ => none) 0 (some (y66_0_0 0))) 1 (some (y66_1_0 0))) 2 (some (y66_2_0 0))) 3 (some (y66_3_0 0))))))))] ++ stW G y66_0_0 sv0 ++ stW G y66_1_0 sv0 ++ stW G y66_2_0 sv0 ++ stW G y66_3_0 sv0)) hDa (fun z h => hAs z (Nat.le_trans hS.1 h))) (fun H90 locs1 hn _ hk hS1 => ?_)
  obtain ⟨y66_4_0, ey66_4_0, hP1, hD1⟩ := hn
  have hj := mk_join (L := ([(q, .inr (5, [.ref (y9_0_0 0), .ref (y20_0_0 0), .ref (y31_0_0 0), .ref z40, .null, .null, .int 0, .int 0]))] ++ stW G y9_0_0 sv0 ++ stW G y20_0_0 sv0 ++ stW G y31_0_0 sv0 ++ [(z40, .inl (gR G, 6, .inr (.inr (.inr (.inr (va_up (va_up (va_up (va_up (fun _ => none) 0 (some (y66_0_0 0))) 1 (some (y66_1_0 0))) 2 (some (y66_2_0 0))) 3 (some (y66_3_0 0))))))))] ++ stW G y66_0_0 sv0 ++ stW G y66_1_0 sv0 ++ stW G y66_2_0 sv0 ++ stW G y66_3_0 sv0)) hPa hDa (fun z h => hAs z (Nat.le_trans hS.1 h)) hk hP1 hD1
  clear hPa hDa hk hP1 hD1 hP hD
  have hS := hS1
  skip
  have hP : PW G ([(q, .inr (5, [.ref (y9_0_0 0), .ref (y20_0_0 0), .ref (y31_0_0 0), .ref z40, .null, .null, .int 0, .int 0]))] ++ stW G y9_0_0 sv0 ++ stW G y20_0_0 sv0 ++ stW G y31_0_0 sv0 ++ [(z40, .inl (gR G, 6, .inr (.inr (.inr (.inr (va_up (va_up (va_up (va_up (fun _ => none) 0 (some (y66_0_0 0))) 1 (some (y66_1_0 0))) 2 (some (y66_2_0 0))) 3 (some (y66_3_0 0))))))))] ++ stW G y66_0_0 sv0 ++ stW G y66_1_0 sv0 ++ stW G y66_2_0 sv0 ++ stW G y66_3_0 sv0 ++ stW G y66_4_0 sv0) H90 := hj.1
  have hD : va_D A ([(q, .inr (5, [.ref (y9_0_0 0), .ref (y20_0_0 0), .ref (y31_0_0 0), .ref z40, .null, .null, .int 0, .int 0]))] ++ stW G y9_0_0 sv0 ++ stW G y20_0_0 sv0 ++ stW G y31_0_0 sv0 ++ [(z40, .inl (gR G, 6, .inr (.inr (.inr (.inr (va_up (va_up (va_up (va_up (fun _ => none) 0 (some (y66_0_0 0))) 1 (some (y66_1_0 0))) 2 (some (y66_2_0 0))) 3 (some (y66_3_0 0))))))))] ++ stW G y66_0_0 sv0 ++ stW G y66_1_0 sv0 ++ stW G y66_2_0 sv0 ++ stW G y66_3_0 sv0 ++ stW G y66_4_0 sv0) := hj.2
  clear hj hS1
  have hqy66_4_0 : z62_4 = y66_4_0 0 := ey66_4_0.symm
  clear ey66_4_0
  subst hqy66_4_0
  refine va_astq hC.1 hC.2.1 (KN.k (hKN.go hAL hS)) hP hD hS 34 1 79 2 (r := ("HeadDots$State", TX2, 8)) rfl rfl rfl rfl (show vp_in (nI 4) 6 from vp_in_nI (by decide) (by decide)) dX5_init_69 (fun H91 locs hP1 _ hS => ?_)
  have hP : PW G ([(q, .inr (5, [.ref (y9_0_0 0), .ref (y20_0_0 0), .ref (y31_0_0 0), .ref z40, .null, .null, .int 0, .int 0]))] ++ stW G y9_0_0 sv0 ++ stW G y20_0_0 sv0 ++ stW G y31_0_0 sv0 ++ [(z40, .inl (gR G, 6, .inr (.inr (.inr (.inr (va_up (va_up (va_up (va_up (va_up (fun _ => none) 0 (some (y66_0_0 0))) 1 (some (y66_1_0 0))) 2 (some (y66_2_0 0))) 3 (some (y66_3_0 0))) 4 (some (y66_4_0 0))))))))] ++ stW G y66_0_0 sv0 ++ stW G y66_1_0 sv0 ++ stW G y66_2_0 sv0 ++ stW G y66_3_0 sv0 ++ stW G y66_4_0 sv0) H91 := hP1
  have hD : va_D A ([(q, .inr (5, [.ref (y9_0_0 0), .ref (y20_0_0 0), .ref (y31_0_0 0), .ref z40, .null, .null, .int 0, .int 0]))] ++ stW G y9_0_0 sv0 ++ stW G y20_0_0 sv0 ++ stW G y31_0_0 sv0 ++ [(z40, .inl (gR G, 6, .inr (.inr (.inr (.inr (va_up (va_up (va_up (va_up (va_up (fun _ => none) 0 (some (y66_0_0 0))) 1 (some (y66_1_0 0))) 2 (some (y66_2_0 0))) 3 (some (y66_3_0 0))) 4 (some (y66_4_0 0))))))))] ++ stW G y66_0_0 sv0 ++ stW G y66_1_0 sv0 ++ stW G y66_2_0 sv0 ++ stW G y66_3_0 sv0 ++ stW G y66_4_0 sv0) := va_D_fst hD rfl
  clear hP1
  refine lv_iinc (v := 5) (lv' := [(1, .int 5), (0, .ref q)]) hC.1 hC.2.1 dX5_init_70 hl (k := 0) rfl (by decide) (by decide) rfl (fun ls hl => ?_)
  refine lv_goto (tgt := 48) hC.1 hC.2.1 dX5_init_73 (by decide) ?_
  refine lv_iload_n hC.1 hC.2.1 dX5_init_48 rfl (lv_at hl 0 rfl) ?_
  refine lv_aload_n hC.1 hC.2.1 dX5_init_49 rfl (lv_at hl 1 rfl) ?_
  refine gf (v := .ref z40) hC fwX5 (hKN.go hAL hS) hP 0 rfl rfl 3 (by decide) rfl wd_192 rfl dX5_init_50 ?_
  refine alen_q hC (hKN.go hAL hS) hP 34 rfl dX5_init_53 ?_
  refine lv_icmp_ge (tgt := 76) hC.1 hC.2.1 dX5_init_54 (by decide) (fun kt => absurd kt (by decide)) (fun _ => ?_)
  refine lv_aload_n hC.1 hC.2.1 dX5_init_57 rfl (lv_at hl 1 rfl) ?_
  refine gf (v := .ref z40) hC fwX5 (hKN.go hAL hS) hP 0 rfl rfl 3 (by decide) rfl wd_192 rfl dX5_init_58 ?_
  refine lv_iload_n hC.1 hC.2.1 dX5_init_61 rfl (lv_at hl 0 rfl) ?_
  refine nwO hC (hKN.go hAL hS) hP hD hS hAs fwX2 (ci := 2) rfl wd_23 wd_24 wd_2 (fs := [.null, .null, .null, .null, .null, .int 0, .int 0, .int 0]) (by decide) (Nat.le_of_ble_eq_true rfl) (Nat.le_of_ble_eq_true rfl) dX5_init_62 (fun z62_5 H102 hPa hDa hS hz => ?_)
  refine lv_dup hC.1 hC.2.1 dX5_init_65 rfl ?_
  refine runE (rI (B := fun _ H => H.size = H102.size ∧ PW G [(z62_5, .inr (2, [.null, .null, .null, .null, .null, .int 0, .int 0, .int 0]))] H) (rest := [.ref z62_5, .int 5, .ref z40]) hC mwX2_init (c_X2_init l G z62_5 H102.size hz) rfl wd_26 wd_25 ⟨rfl, rfl⟩ ⟨Nat.le_of_ble_eq_true rfl, Nat.le_of_ble_eq_true rfl⟩ (stb_h (fun H => H.size = H102.size ∧ PW G [(z62_5, .inr (2, [.null, .null, .null, .null, .null, .int 0, .int 0, .int 0]))] H)) (hKN.go hAL hS) ⟨rfl, va_P.sub hPa [90] rfl⟩ hl.1 (Nat.le_of_ble_eq_true rfl) dX5_init_66 ⟨Nat.le_of_ble_eq_true rfl, Nat.le_of_ble_eq_true rfl⟩) hS (mk_free (L := ([(q, .inr (5, [.ref (y9_0_0 0), .ref (y20_0_0 0), .ref (y31_0_0 0), .ref z40, .null, .null, .int 0, .int 0]))] ++ stW G y9_0_0 sv0 ++ stW G y20_0_0 sv0 ++ stW G y31_0_0 sv0 ++ [(z40, .inl (gR G, 6, .inr (.inr (.inr (.inr (va_up (va_up (va_up (va_up (va_up (fun _ => none) 0 (some (y66_0_0 0))) 1 (some (y66_1_0 0))) 2 (some (y66_2_0 0))) 3 (some (y66_3_0 0))) 4 (some (y66_4_0 0))))))))] ++ stW G y66_0_0 sv0 ++ stW G y66_1_0 sv0 ++ stW G y66_2_0 sv0 ++ stW G y66_3_0 sv0 ++ stW G y66_4_0 sv0)) hDa (fun z h => hAs z (Nat.le_trans hS.1 h))) (mk_free (L := ([(q, .inr (5, [.ref (y9_0_0 0), .ref (y20_0_0 0), .ref (y31_0_0 0), .ref z40, .null, .null, .int 0, .int 0]))] ++ stW G y9_0_0 sv0 ++ stW G y20_0_0 sv0 ++ stW G y31_0_0 sv0 ++ [(z40, .inl (gR G, 6, .inr (.inr (.inr (.inr (va_up (va_up (va_up (va_up (va_up (fun _ => none) 0 (some (y66_0_0 0))) 1 (some (y66_1_0 0))) 2 (some (y66_2_0 0))) 3 (some (y66_3_0 0))) 4 (some (y66_4_0 0))))))))] ++ stW G y66_0_0 sv0 ++ stW G y66_1_0 sv0 ++ stW G y66_2_0 sv0 ++ stW G y66_3_0 sv0 ++ stW G y66_4_0 sv0)) hDa (fun z h => hAs z (Nat.le_trans hS.1 h))) (fun H104 locs1 hn _ hk hS1 => ?_)
  obtain ⟨y66_5_0, ey66_5_0, hP1, hD1⟩ := hn
  have hj := mk_join (L := ([(q, .inr (5, [.ref (y9_0_0 0), .ref (y20_0_0 0), .ref (y31_0_0 0), .ref z40, .null, .null, .int 0, .int 0]))] ++ stW G y9_0_0 sv0 ++ stW G y20_0_0 sv0 ++ stW G y31_0_0 sv0 ++ [(z40, .inl (gR G, 6, .inr (.inr (.inr (.inr (va_up (va_up (va_up (va_up (va_up (fun _ => none) 0 (some (y66_0_0 0))) 1 (some (y66_1_0 0))) 2 (some (y66_2_0 0))) 3 (some (y66_3_0 0))) 4 (some (y66_4_0 0))))))))] ++ stW G y66_0_0 sv0 ++ stW G y66_1_0 sv0 ++ stW G y66_2_0 sv0 ++ stW G y66_3_0 sv0 ++ stW G y66_4_0 sv0)) hPa hDa (fun z h => hAs z (Nat.le_trans hS.1 h)) hk hP1 hD1
  clear hPa hDa hk hP1 hD1 hP hD
  have hS := hS1
  skip
  have hP : PW G ([(q, .inr (5, [.ref (y9_0_0 0), .ref (y20_0_0 0), .ref (y31_0_0 0), .ref z40, .null, .null, .int 0, .int 0]))] ++ stW G y9_0_0 sv0 ++ stW G y20_0_0 sv0 ++ stW G y31_0_0 sv0 ++ [(z40, .inl (gR G, 6, .inr (.inr (.inr (.inr (va_up (va_up (va_up (va_up (va_up (fun _ => none) 0 (some (y66_0_0 0))) 1 (some (y66_1_0 0))) 2 (some (y66_2_0 0))) 3 (some (y66_3_0 0))) 4 (some (y66_4_0 0))))))))] ++ stW G y66_0_0 sv0 ++ stW G y66_1_0 sv0 ++ stW G y66_2_0 sv0 ++ stW G y66_3_0 sv0 ++ stW G y66_4_0 sv0 ++ stW G y66_5_0 sv0) H104 := hj.1
  have hD : va_D A ([(q, .inr (5, [.ref (y9_0_0 0), .ref (y20_0_0 0), .ref (y31_0_0 0), .ref z40, .null, .null, .int 0, .int 0]))] ++ stW G y9_0_0 sv0 ++ stW G y20_0_0 sv0 ++ stW G y31_0_0 sv0 ++ [(z40, .inl (gR G, 6, .inr (.inr (.inr (.inr (va_up (va_up (va_up (va_up (va_up (fun _ => none) 0 (some (y66_0_0 0))) 1 (some (y66_1_0 0))) 2 (some (y66_2_0 0))) 3 (some (y66_3_0 0))) 4 (some (y66_4_0 0))))))))] ++ stW G y66_0_0 sv0 ++ stW G y66_1_0 sv0 ++ stW G y66_2_0 sv0 ++ stW G y66_3_0 sv0 ++ stW G y66_4_0 sv0 ++ stW G y66_5_0 sv0) := hj.2
  clear hj hS1
  have hqy66_5_0 : z62_5 = y66_5_0 0 := ey66_5_0.symm
  clear ey66_5_0
  subst hqy66_5_0
  refine va_astq hC.1 hC.2.1 (KN.k (hKN.go hAL hS)) hP hD hS 34 1 90 2 (r := ("HeadDots$State", TX2, 8)) rfl rfl rfl rfl (show vp_in (nI 5) 6 from vp_in_nI (by decide) (by decide)) dX5_init_69 (fun H105 locs hP1 _ hS => ?_)
  have hP : PW G ([(q, .inr (5, [.ref (y9_0_0 0), .ref (y20_0_0 0), .ref (y31_0_0 0), .ref z40, .null, .null, .int 0, .int 0]))] ++ stW G y9_0_0 sv0 ++ stW G y20_0_0 sv0 ++ stW G y31_0_0 sv0 ++ [(z40, .inl (gR G, 6, .inr (.inr (.inr (.inr (va_up (va_up (va_up (va_up (va_up (va_up (fun _ => none) 0 (some (y66_0_0 0))) 1 (some (y66_1_0 0))) 2 (some (y66_2_0 0))) 3 (some (y66_3_0 0))) 4 (some (y66_4_0 0))) 5 (some (y66_5_0 0))))))))] ++ stW G y66_0_0 sv0 ++ stW G y66_1_0 sv0 ++ stW G y66_2_0 sv0 ++ stW G y66_3_0 sv0 ++ stW G y66_4_0 sv0 ++ stW G y66_5_0 sv0) H105 := hP1
  have hD : va_D A ([(q, .inr (5, [.ref (y9_0_0 0), .ref (y20_0_0 0), .ref (y31_0_0 0), .ref z40, .null, .null, .int 0, .int 0]))] ++ stW G y9_0_0 sv0 ++ stW G y20_0_0 sv0 ++ stW G y31_0_0 sv0 ++ [(z40, .inl (gR G, 6, .inr (.inr (.inr (.inr (va_up (va_up (va_up (va_up (va_up (va_up (fun _ => none) 0 (some (y66_0_0 0))) 1 (some (y66_1_0 0))) 2 (some (y66_2_0 0))) 3 (some (y66_3_0 0))) 4 (some (y66_4_0 0))) 5 (some (y66_5_0 0))))))))] ++ stW G y66_0_0 sv0 ++ stW G y66_1_0 sv0 ++ stW G y66_2_0 sv0 ++ stW G y66_3_0 sv0 ++ stW G y66_4_0 sv0 ++ stW G y66_5_0 sv0) := va_D_fst hD rfl
  clear hP1
  refine lv_iinc (v := 6) (lv' := [(1, .int 6), (0, .ref q)]) hC.1 hC.2.1 dX5_init_70 hl (k := 0) rfl (by decide) (by decide) rfl (fun ls hl => ?_)
  refine lv_goto (tgt := 48) hC.1 hC.2.1 dX5_init_73 (by decide) ?_
  refine lv_iload_n hC.1 hC.2.1 dX5_init_48 rfl (lv_at hl 0 rfl) ?_
  refine lv_aload_n hC.1 hC.2.1 dX5_init_49 rfl (lv_at hl 1 rfl) ?_
  refine gf (v := .ref z40) hC fwX5 (hKN.go hAL hS) hP 0 rfl rfl 3 (by decide) rfl wd_192 rfl dX5_init_50 ?_
  refine alen_q hC (hKN.go hAL hS) hP 34 rfl dX5_init_53 ?_
  refine lv_icmp_ge (tgt := 76) hC.1 hC.2.1 dX5_init_54 (by decide) (fun _ => ?_) (fun kf => absurd (by decide) kf)
  refine lv_aload_n hC.1 hC.2.1 dX5_init_76 rfl (lv_at hl 1 rfl) ?_
  refine nwO hC (hKN.go hAL hS) hP hD hS hAs fwX0 (ci := 0) rfl wd_137 wd_138 wd_7 (fs := [.null, .int 0]) (by decide) (Nat.le_of_ble_eq_true rfl) (Nat.le_of_ble_eq_true rfl) dX5_init_77 (fun z77_6 H114 hPa hDa hS hz => ?_)
  refine lv_dup hC.1 hC.2.1 dX5_init_80 rfl ?_
  refine runE (rI (B := fun _ H => H.size = H114.size ∧ PW G [(z77_6, .inr (0, [.null, .int 0]))] H) (rest := [.ref z77_6, .ref q]) hC mwX0_init (c_X0_init l G z77_6 H114.size hz) rfl wd_140 wd_139 ⟨rfl, rfl⟩ ⟨Nat.le_of_ble_eq_true rfl, Nat.le_of_ble_eq_true rfl⟩ (stb_h (fun H => H.size = H114.size ∧ PW G [(z77_6, .inr (0, [.null, .int 0]))] H)) (hKN.go hAL hS) ⟨rfl, va_P.sub hPa [101] rfl⟩ hl.1 (Nat.le_of_ble_eq_true rfl) dX5_init_81 ⟨Nat.le_of_ble_eq_true rfl, Nat.le_of_ble_eq_true rfl⟩) hS (mk_free (L := ([(q, .inr (5, [.ref (y9_0_0 0), .ref (y20_0_0 0), .ref (y31_0_0 0), .ref z40, .null, .null, .int 0, .int 0]))] ++ stW G y9_0_0 sv0 ++ stW G y20_0_0 sv0 ++ stW G y31_0_0 sv0 ++ [(z40, .inl (gR G, 6, .inr (.inr (.inr (.inr (va_up (va_up (va_up (va_up (va_up (va_up (fun _ => none) 0 (some (y66_0_0 0))) 1 (some (y66_1_0 0))) 2 (some (y66_2_0 0))) 3 (some (y66_3_0 0))) 4 (some (y66_4_0 0))) 5 (some (y66_5_0 0))))))))] ++ stW G y66_0_0 sv0 ++ stW G y66_1_0 sv0 ++ stW G y66_2_0 sv0 ++ stW G y66_3_0 sv0 ++ stW G y66_4_0 sv0 ++ stW G y66_5_0 sv0)) hDa (fun z h => hAs z (Nat.le_trans hS.1 h))) (mk_free (L := ([(q, .inr (5, [.ref (y9_0_0 0), .ref (y20_0_0 0), .ref (y31_0_0 0), .ref z40, .null, .null, .int 0, .int 0]))] ++ stW G y9_0_0 sv0 ++ stW G y20_0_0 sv0 ++ stW G y31_0_0 sv0 ++ [(z40, .inl (gR G, 6, .inr (.inr (.inr (.inr (va_up (va_up (va_up (va_up (va_up (va_up (fun _ => none) 0 (some (y66_0_0 0))) 1 (some (y66_1_0 0))) 2 (some (y66_2_0 0))) 3 (some (y66_3_0 0))) 4 (some (y66_4_0 0))) 5 (some (y66_5_0 0))))))))] ++ stW G y66_0_0 sv0 ++ stW G y66_1_0 sv0 ++ stW G y66_2_0 sv0 ++ stW G y66_3_0 sv0 ++ stW G y66_4_0 sv0 ++ stW G y66_5_0 sv0)) hDa (fun z h => hAs z (Nat.le_trans hS.1 h))) (fun H116 locs1 hn _ hk hS1 => ?_)
  obtain ⟨y81_6_0, hP1, hD1⟩ := hn
  have hj := mk_join (L := ([(q, .inr (5, [.ref (y9_0_0 0), .ref (y20_0_0 0), .ref (y31_0_0 0), .ref z40, .null, .null, .int 0, .int 0]))] ++ stW G y9_0_0 sv0 ++ stW G y20_0_0 sv0 ++ stW G y31_0_0 sv0 ++ [(z40, .inl (gR G, 6, .inr (.inr (.inr (.inr (va_up (va_up (va_up (va_up (va_up (va_up (fun _ => none) 0 (some (y66_0_0 0))) 1 (some (y66_1_0 0))) 2 (some (y66_2_0 0))) 3 (some (y66_3_0 0))) 4 (some (y66_4_0 0))) 5 (some (y66_5_0 0))))))))] ++ stW G y66_0_0 sv0 ++ stW G y66_1_0 sv0 ++ stW G y66_2_0 sv0 ++ stW G y66_3_0 sv0 ++ stW G y66_4_0 sv0 ++ stW G y66_5_0 sv0)) hPa hDa (fun z h => hAs z (Nat.le_trans hS.1 h)) hk hP1 hD1
  clear hPa hDa hk hP1 hD1 hP hD
  have hS := hS1
  have hP : PW G ([(q, .inr (5, [.ref (y9_0_0 0), .ref (y20_0_0 0), .ref (y31_0_0 0), .ref z40, .null, .null, .int 0, .int 0]))] ++ stW G y9_0_0 sv0 ++ stW G y20_0_0 sv0 ++ stW G y31_0_0 sv0 ++ [(z40, .inl (gR G, 6, .inr (.inr (.inr (.inr (va_up (va_up (va_up (va_up (va_up (va_up (fun _ => none) 0 (some (y66_0_0 0))) 1 (some (y66_1_0 0))) 2 (some (y66_2_0 0))) 3 (some (y66_3_0 0))) 4 (some (y66_4_0 0))) 5 (some (y66_5_0 0))))))))] ++ stW G y66_0_0 sv0 ++ stW G y66_1_0 sv0 ++ stW G y66_2_0 sv0 ++ stW G y66_3_0 sv0 ++ stW G y66_4_0 sv0 ++ stW G y66_5_0 sv0 ++ [(z77_6, .inr (0, [.ref y81_6_0, .int 0])), (y81_6_0, .inl (gI G, 60, .inl (fun _ => 0)))]) H116 := hj.1
  have hD : va_D A ([(q, .inr (5, [.ref (y9_0_0 0), .ref (y20_0_0 0), .ref (y31_0_0 0), .ref z40, .null, .null, .int 0, .int 0]))] ++ stW G y9_0_0 sv0 ++ stW G y20_0_0 sv0 ++ stW G y31_0_0 sv0 ++ [(z40, .inl (gR G, 6, .inr (.inr (.inr (.inr (va_up (va_up (va_up (va_up (va_up (va_up (fun _ => none) 0 (some (y66_0_0 0))) 1 (some (y66_1_0 0))) 2 (some (y66_2_0 0))) 3 (some (y66_3_0 0))) 4 (some (y66_4_0 0))) 5 (some (y66_5_0 0))))))))] ++ stW G y66_0_0 sv0 ++ stW G y66_1_0 sv0 ++ stW G y66_2_0 sv0 ++ stW G y66_3_0 sv0 ++ stW G y66_4_0 sv0 ++ stW G y66_5_0 sv0 ++ [(z77_6, .inr (0, [.ref y81_6_0, .int 0])), (y81_6_0, .inl (gI G, 60, .inl (fun _ => 0)))]) := hj.2
  clear hj hS1
  refine pfF (v := .ref z77_6) (tv := .object "HeadDots$Buffer") hC fwX5 (hKN.go hAL hS) hP hD hS 0 rfl rfl 4 (by decide) rfl rfl rfl wd_193 rfl rfl rfl (Nat.le_of_ble_eq_true rfl) dX5_init_84 (fun H117 locs hP1 hS => ?_)
  have hP : PW G ([(q, .inr (5, [.ref (y9_0_0 0), .ref (y20_0_0 0), .ref (y31_0_0 0), .ref z40, .ref z77_6, .null, .int 0, .int 0]))] ++ stW G y9_0_0 sv0 ++ stW G y20_0_0 sv0 ++ stW G y31_0_0 sv0 ++ [(z40, .inl (gR G, 6, .inr (.inr (.inr (.inr (va_up (va_up (va_up (va_up (va_up (va_up (fun _ => none) 0 (some (y66_0_0 0))) 1 (some (y66_1_0 0))) 2 (some (y66_2_0 0))) 3 (some (y66_3_0 0))) 4 (some (y66_4_0 0))) 5 (some (y66_5_0 0))))))))] ++ stW G y66_0_0 sv0 ++ stW G y66_1_0 sv0 ++ stW G y66_2_0 sv0 ++ stW G y66_3_0 sv0 ++ stW G y66_4_0 sv0 ++ stW G y66_5_0 sv0 ++ [(z77_6, .inr (0, [.ref y81_6_0, .int 0])), (y81_6_0, .inl (gI G, 60, .inl (fun _ => 0)))]) H117 := hP1
  have hD : va_D A ([(q, .inr (5, [.ref (y9_0_0 0), .ref (y20_0_0 0), .ref (y31_0_0 0), .ref z40, .ref z77_6, .null, .int 0, .int 0]))] ++ stW G y9_0_0 sv0 ++ stW G y20_0_0 sv0 ++ stW G y31_0_0 sv0 ++ [(z40, .inl (gR G, 6, .inr (.inr (.inr (.inr (va_up (va_up (va_up (va_up (va_up (va_up (fun _ => none) 0 (some (y66_0_0 0))) 1 (some (y66_1_0 0))) 2 (some (y66_2_0 0))) 3 (some (y66_3_0 0))) 4 (some (y66_4_0 0))) 5 (some (y66_5_0 0))))))))] ++ stW G y66_0_0 sv0 ++ stW G y66_1_0 sv0 ++ stW G y66_2_0 sv0 ++ stW G y66_3_0 sv0 ++ stW G y66_4_0 sv0 ++ stW G y66_5_0 sv0 ++ [(z77_6, .inr (0, [.ref y81_6_0, .int 0])), (y81_6_0, .inl (gI G, 60, .inl (fun _ => 0)))]) := va_D_fst hD rfl
  clear hP1
  refine lv_aload_n hC.1 hC.2.1 dX5_init_87 rfl (lv_at hl 1 rfl) ?_
  refine nwO hC (hKN.go hAL hS) hP hD hS hAs fwX1 (ci := 1) rfl wd_150 wd_151 wd_8 (fs := [.int 0, .int 0, .null, .int 0, .int 0, .int 0, .int 0, .int 0, .int 0, .int 0]) (by decide) (Nat.le_of_ble_eq_true rfl) (Nat.le_of_ble_eq_true rfl) dX5_init_88 (fun z88_6 H119 hPa hDa hS hz => ?_)
  refine lv_dup hC.1 hC.2.1 dX5_init_91 rfl ?_
  refine runE (rI (B := fun _ H => H.size = H119.size ∧ PW G [(z88_6, .inr (1, [.int 0, .int 0, .null, .int 0, .int 0, .int 0, .int 0, .int 0, .int 0, .int 0]))] H) (rest := [.ref z88_6, .ref q]) hC mwX1_init (c_X1_init l G z88_6 H119.size hz) rfl wd_153 wd_152 ⟨rfl, rfl⟩ ⟨Nat.le_of_ble_eq_true rfl, Nat.le_of_ble_eq_true rfl⟩ (stb_h (fun H => H.size = H119.size ∧ PW G [(z88_6, .inr (1, [.int 0, .int 0, .null, .int 0, .int 0, .int 0, .int 0, .int 0, .int 0, .int 0]))] H)) (hKN.go hAL hS) ⟨rfl, va_P.sub hPa [103] rfl⟩ hl.1 (Nat.le_of_ble_eq_true rfl) dX5_init_92 ⟨Nat.le_of_ble_eq_true rfl, Nat.le_of_ble_eq_true rfl⟩) hS (mk_free (L := ([(q, .inr (5, [.ref (y9_0_0 0), .ref (y20_0_0 0), .ref (y31_0_0 0), .ref z40, .ref z77_6, .null, .int 0, .int 0]))] ++ stW G y9_0_0 sv0 ++ stW G y20_0_0 sv0 ++ stW G y31_0_0 sv0 ++ [(z40, .inl (gR G, 6, .inr (.inr (.inr (.inr (va_up (va_up (va_up (va_up (va_up (va_up (fun _ => none) 0 (some (y66_0_0 0))) 1 (some (y66_1_0 0))) 2 (some (y66_2_0 0))) 3 (some (y66_3_0 0))) 4 (some (y66_4_0 0))) 5 (some (y66_5_0 0))))))))] ++ stW G y66_0_0 sv0 ++ stW G y66_1_0 sv0 ++ stW G y66_2_0 sv0 ++ stW G y66_3_0 sv0 ++ stW G y66_4_0 sv0 ++ stW G y66_5_0 sv0 ++ [(z77_6, .inr (0, [.ref y81_6_0, .int 0])), (y81_6_0, .inl (gI G, 60, .inl (fun _ => 0)))])) hDa (fun z h => hAs z (Nat.le_trans hS.1 h))) (mk_free (L := ([(q, .inr (5, [.ref (y9_0_0 0), .ref (y20_0_0 0), .ref (y31_0_0 0), .ref z40, .ref z77_6, .null, .int 0, .int 0]))] ++ stW G y9_0_0 sv0 ++ stW G y20_0_0 sv0 ++ stW G y31_0_0 sv0 ++ [(z40, .inl (gR G, 6, .inr (.inr (.inr (.inr (va_up (va_up (va_up (va_up (va_up (va_up (fun _ => none) 0 (some (y66_0_0 0))) 1 (some (y66_1_0 0))) 2 (some (y66_2_0 0))) 3 (some (y66_3_0 0))) 4 (some (y66_4_0 0))) 5 (some (y66_5_0 0))))))))] ++ stW G y66_0_0 sv0 ++ stW G y66_1_0 sv0 ++ stW G y66_2_0 sv0 ++ stW G y66_3_0 sv0 ++ stW G y66_4_0 sv0 ++ stW G y66_5_0 sv0 ++ [(z77_6, .inr (0, [.ref y81_6_0, .int 0])), (y81_6_0, .inl (gI G, 60, .inl (fun _ => 0)))])) hDa (fun z h => hAs z (Nat.le_trans hS.1 h))) (fun H121 locs1 hn _ hk hS1 => ?_)
  obtain ⟨hP1, hD1⟩ := hn
  have hj := mk_join (L := ([(q, .inr (5, [.ref (y9_0_0 0), .ref (y20_0_0 0), .ref (y31_0_0 0), .ref z40, .ref z77_6, .null, .int 0, .int 0]))] ++ stW G y9_0_0 sv0 ++ stW G y20_0_0 sv0 ++ stW G y31_0_0 sv0 ++ [(z40, .inl (gR G, 6, .inr (.inr (.inr (.inr (va_up (va_up (va_up (va_up (va_up (va_up (fun _ => none) 0 (some (y66_0_0 0))) 1 (some (y66_1_0 0))) 2 (some (y66_2_0 0))) 3 (some (y66_3_0 0))) 4 (some (y66_4_0 0))) 5 (some (y66_5_0 0))))))))] ++ stW G y66_0_0 sv0 ++ stW G y66_1_0 sv0 ++ stW G y66_2_0 sv0 ++ stW G y66_3_0 sv0 ++ stW G y66_4_0 sv0 ++ stW G y66_5_0 sv0 ++ [(z77_6, .inr (0, [.ref y81_6_0, .int 0])), (y81_6_0, .inl (gI G, 60, .inl (fun _ => 0)))])) hPa hDa (fun z h => hAs z (Nat.le_trans hS.1 h)) hk hP1 hD1
  clear hPa hDa hk hP1 hD1 hP hD
  have hS := hS1
  have hP : PW G ([(q, .inr (5, [.ref (y9_0_0 0), .ref (y20_0_0 0), .ref (y31_0_0 0), .ref z40, .ref z77_6, .null, .int 0, .int 0]))] ++ stW G y9_0_0 sv0 ++ stW G y20_0_0 sv0 ++ stW G y31_0_0 sv0 ++ [(z40, .inl (gR G, 6, .inr (.inr (.inr (.inr (va_up (va_up (va_up (va_up (va_up (va_up (fun _ => none) 0 (some (y66_0_0 0))) 1 (some (y66_1_0 0))) 2 (some (y66_2_0 0))) 3 (some (y66_3_0 0))) 4 (some (y66_4_0 0))) 5 (some (y66_5_0 0))))))))] ++ stW G y66_0_0 sv0 ++ stW G y66_1_0 sv0 ++ stW G y66_2_0 sv0 ++ stW G y66_3_0 sv0 ++ stW G y66_4_0 sv0 ++ stW G y66_5_0 sv0 ++ [(z77_6, .inr (0, [.ref y81_6_0, .int 0])), (y81_6_0, .inl (gI G, 60, .inl (fun _ => 0))), (z88_6, .inr (1, [.int 0, .int 0, .ref (gA G (10 + 0)), .int 0, .int 0, .int 0, .int 0, .int 0, .int 0, .int 0]))]) H121 := hj.1
  have hD : va_D A ([(q, .inr (5, [.ref (y9_0_0 0), .ref (y20_0_0 0), .ref (y31_0_0 0), .ref z40, .ref z77_6, .null, .int 0, .int 0]))] ++ stW G y9_0_0 sv0 ++ stW G y20_0_0 sv0 ++ stW G y31_0_0 sv0 ++ [(z40, .inl (gR G, 6, .inr (.inr (.inr (.inr (va_up (va_up (va_up (va_up (va_up (va_up (fun _ => none) 0 (some (y66_0_0 0))) 1 (some (y66_1_0 0))) 2 (some (y66_2_0 0))) 3 (some (y66_3_0 0))) 4 (some (y66_4_0 0))) 5 (some (y66_5_0 0))))))))] ++ stW G y66_0_0 sv0 ++ stW G y66_1_0 sv0 ++ stW G y66_2_0 sv0 ++ stW G y66_3_0 sv0 ++ stW G y66_4_0 sv0 ++ stW G y66_5_0 sv0 ++ [(z77_6, .inr (0, [.ref y81_6_0, .int 0])), (y81_6_0, .inl (gI G, 60, .inl (fun _ => 0))), (z88_6, .inr (1, [.int 0, .int 0, .ref (gA G (10 + 0)), .int 0, .int 0, .int 0, .int 0, .int 0, .int 0, .int 0]))]) := hj.2
  clear hj hS1
  refine pfF (v := .ref z88_6) (tv := .object "HeadDots$Reader") hC fwX5 (hKN.go hAL hS) hP hD hS 0 rfl rfl 5 (by decide) rfl rfl rfl wd_194 rfl rfl rfl (Nat.le_of_ble_eq_true rfl) dX5_init_95 (fun H122 locs hP1 hS => ?_)
  have hP : PW G ([(q, .inr (5, [.ref (y9_0_0 0), .ref (y20_0_0 0), .ref (y31_0_0 0), .ref z40, .ref z77_6, .ref z88_6, .int 0, .int 0]))] ++ stW G y9_0_0 sv0 ++ stW G y20_0_0 sv0 ++ stW G y31_0_0 sv0 ++ [(z40, .inl (gR G, 6, .inr (.inr (.inr (.inr (va_up (va_up (va_up (va_up (va_up (va_up (fun _ => none) 0 (some (y66_0_0 0))) 1 (some (y66_1_0 0))) 2 (some (y66_2_0 0))) 3 (some (y66_3_0 0))) 4 (some (y66_4_0 0))) 5 (some (y66_5_0 0))))))))] ++ stW G y66_0_0 sv0 ++ stW G y66_1_0 sv0 ++ stW G y66_2_0 sv0 ++ stW G y66_3_0 sv0 ++ stW G y66_4_0 sv0 ++ stW G y66_5_0 sv0 ++ [(z77_6, .inr (0, [.ref y81_6_0, .int 0])), (y81_6_0, .inl (gI G, 60, .inl (fun _ => 0))), (z88_6, .inr (1, [.int 0, .int 0, .ref (gA G (10 + 0)), .int 0, .int 0, .int 0, .int 0, .int 0, .int 0, .int 0]))]) H122 := hP1
  have hD : va_D A ([(q, .inr (5, [.ref (y9_0_0 0), .ref (y20_0_0 0), .ref (y31_0_0 0), .ref z40, .ref z77_6, .ref z88_6, .int 0, .int 0]))] ++ stW G y9_0_0 sv0 ++ stW G y20_0_0 sv0 ++ stW G y31_0_0 sv0 ++ [(z40, .inl (gR G, 6, .inr (.inr (.inr (.inr (va_up (va_up (va_up (va_up (va_up (va_up (fun _ => none) 0 (some (y66_0_0 0))) 1 (some (y66_1_0 0))) 2 (some (y66_2_0 0))) 3 (some (y66_3_0 0))) 4 (some (y66_4_0 0))) 5 (some (y66_5_0 0))))))))] ++ stW G y66_0_0 sv0 ++ stW G y66_1_0 sv0 ++ stW G y66_2_0 sv0 ++ stW G y66_3_0 sv0 ++ stW G y66_4_0 sv0 ++ stW G y66_5_0 sv0 ++ [(z77_6, .inr (0, [.ref y81_6_0, .int 0])), (y81_6_0, .inl (gI G, 60, .inl (fun _ => 0))), (z88_6, .inr (1, [.int 0, .int 0, .ref (gA G (10 + 0)), .int 0, .int 0, .int 0, .int 0, .int 0, .int 0, .int 0]))]) := va_D_fst hD rfl
  clear hP1
  refine lv_aload_n hC.1 hC.2.1 dX5_init_98 rfl (lv_at hl 1 rfl) ?_
  refine lv_iconst (v := 0) hC.1 hC.2.1 dX5_init_99 (by decide) ?_
  refine pf (v := .int 0) (tv := .int) hC fwX5 (hKN.go hAL hS) hP hD hS 0 rfl rfl 6 (by decide) rfl wd_195 rfl rfl rfl (Nat.le_of_ble_eq_true rfl) dX5_init_100 (fun H125 locs hP1 hS => ?_)
  have hP : PW G ([(q, .inr (5, [.ref (y9_0_0 0), .ref (y20_0_0 0), .ref (y31_0_0 0), .ref z40, .ref z77_6, .ref z88_6, .int 0, .int 0]))] ++ stW G y9_0_0 sv0 ++ stW G y20_0_0 sv0 ++ stW G y31_0_0 sv0 ++ [(z40, .inl (gR G, 6, .inr (.inr (.inr (.inr (va_up (va_up (va_up (va_up (va_up (va_up (fun _ => none) 0 (some (y66_0_0 0))) 1 (some (y66_1_0 0))) 2 (some (y66_2_0 0))) 3 (some (y66_3_0 0))) 4 (some (y66_4_0 0))) 5 (some (y66_5_0 0))))))))] ++ stW G y66_0_0 sv0 ++ stW G y66_1_0 sv0 ++ stW G y66_2_0 sv0 ++ stW G y66_3_0 sv0 ++ stW G y66_4_0 sv0 ++ stW G y66_5_0 sv0 ++ [(z77_6, .inr (0, [.ref y81_6_0, .int 0])), (y81_6_0, .inl (gI G, 60, .inl (fun _ => 0))), (z88_6, .inr (1, [.int 0, .int 0, .ref (gA G (10 + 0)), .int 0, .int 0, .int 0, .int 0, .int 0, .int 0, .int 0]))]) H125 := hP1
  have hD : va_D A ([(q, .inr (5, [.ref (y9_0_0 0), .ref (y20_0_0 0), .ref (y31_0_0 0), .ref z40, .ref z77_6, .ref z88_6, .int 0, .int 0]))] ++ stW G y9_0_0 sv0 ++ stW G y20_0_0 sv0 ++ stW G y31_0_0 sv0 ++ [(z40, .inl (gR G, 6, .inr (.inr (.inr (.inr (va_up (va_up (va_up (va_up (va_up (va_up (fun _ => none) 0 (some (y66_0_0 0))) 1 (some (y66_1_0 0))) 2 (some (y66_2_0 0))) 3 (some (y66_3_0 0))) 4 (some (y66_4_0 0))) 5 (some (y66_5_0 0))))))))] ++ stW G y66_0_0 sv0 ++ stW G y66_1_0 sv0 ++ stW G y66_2_0 sv0 ++ stW G y66_3_0 sv0 ++ stW G y66_4_0 sv0 ++ stW G y66_5_0 sv0 ++ [(z77_6, .inr (0, [.ref y81_6_0, .int 0])), (y81_6_0, .inl (gI G, 60, .inl (fun _ => 0))), (z88_6, .inr (1, [.int 0, .int 0, .ref (gA G (10 + 0)), .int 0, .int 0, .int 0, .int 0, .int 0, .int 0, .int 0]))]) := va_D_fst hD rfl
  clear hP1
  refine lv_aload_n hC.1 hC.2.1 dX5_init_103 rfl (lv_at hl 1 rfl) ?_
  refine lv_iconst (v := 0) hC.1 hC.2.1 dX5_init_104 (by decide) ?_
  refine pf (v := .int 0) (tv := .boolean) hC fwX5 (hKN.go hAL hS) hP hD hS 0 rfl rfl 7 (by decide) rfl wd_196 rfl rfl rfl (Nat.le_of_ble_eq_true rfl) dX5_init_105 (fun H128 locs hP1 hS => ?_)
  have hP : PW G ([(q, .inr (5, [.ref (y9_0_0 0), .ref (y20_0_0 0), .ref (y31_0_0 0), .ref z40, .ref z77_6, .ref z88_6, .int 0, .int 0]))] ++ stW G y9_0_0 sv0 ++ stW G y20_0_0 sv0 ++ stW G y31_0_0 sv0 ++ [(z40, .inl (gR G, 6, .inr (.inr (.inr (.inr (va_up (va_up (va_up (va_up (va_up (va_up (fun _ => none) 0 (some (y66_0_0 0))) 1 (some (y66_1_0 0))) 2 (some (y66_2_0 0))) 3 (some (y66_3_0 0))) 4 (some (y66_4_0 0))) 5 (some (y66_5_0 0))))))))] ++ stW G y66_0_0 sv0 ++ stW G y66_1_0 sv0 ++ stW G y66_2_0 sv0 ++ stW G y66_3_0 sv0 ++ stW G y66_4_0 sv0 ++ stW G y66_5_0 sv0 ++ [(z77_6, .inr (0, [.ref y81_6_0, .int 0])), (y81_6_0, .inl (gI G, 60, .inl (fun _ => 0))), (z88_6, .inr (1, [.int 0, .int 0, .ref (gA G (10 + 0)), .int 0, .int 0, .int 0, .int 0, .int 0, .int 0, .int 0]))]) H128 := hP1
  have hD : va_D A ([(q, .inr (5, [.ref (y9_0_0 0), .ref (y20_0_0 0), .ref (y31_0_0 0), .ref z40, .ref z77_6, .ref z88_6, .int 0, .int 0]))] ++ stW G y9_0_0 sv0 ++ stW G y20_0_0 sv0 ++ stW G y31_0_0 sv0 ++ [(z40, .inl (gR G, 6, .inr (.inr (.inr (.inr (va_up (va_up (va_up (va_up (va_up (va_up (fun _ => none) 0 (some (y66_0_0 0))) 1 (some (y66_1_0 0))) 2 (some (y66_2_0 0))) 3 (some (y66_3_0 0))) 4 (some (y66_4_0 0))) 5 (some (y66_5_0 0))))))))] ++ stW G y66_0_0 sv0 ++ stW G y66_1_0 sv0 ++ stW G y66_2_0 sv0 ++ stW G y66_3_0 sv0 ++ stW G y66_4_0 sv0 ++ stW G y66_5_0 sv0 ++ [(z77_6, .inr (0, [.ref y81_6_0, .int 0])), (y81_6_0, .inl (gI G, 60, .inl (fun _ => 0))), (z88_6, .inr (1, [.int 0, .int 0, .ref (gA G (10 + 0)), .int 0, .int 0, .int 0, .int 0, .int 0, .int 0, .int 0]))]) := va_D_fst hD rfl
  clear hP1
  have hf := fin5 (q := q) (z1 := z40) (z2 := z77_6) (z3 := y81_6_0) (z4 := z88_6) (r0 := y9_0_0) (r1 := y20_0_0) (r2 := y31_0_0) (r3 := y66_0_0) (r4 := y66_1_0) (r5 := y66_2_0) (r6 := y66_3_0) (r7 := y66_4_0) (r8 := y66_5_0) hP hD hAL
  exact eE_v hC (hAe ▸ hf) hS dX5_init_108

