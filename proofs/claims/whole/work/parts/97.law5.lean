theorem dL_law_504 : decode code 504 = .ok (.aload_n 1, 1) := by decide +kernel
theorem dL_law_505 : decode code 505 = .ok (.invokevirtual 98, 3) := by decide +kernel
theorem dL_law_508 : decode code 508 = .ok (.aload_n 2, 1) := by decide +kernel
theorem dL_law_509 : decode code 509 = .ok (.invokevirtual 101, 3) := by decide +kernel
theorem dL_law_512 : decode code 512 = .ok (.if_icmp .eq 757, 3) := by decide +kernel
theorem dL_law_517 : decode code 517 = .ok (.aload_n 1, 1) := by decide +kernel
theorem dL_law_518 : decode code 518 = .ok (.invokevirtual 102, 3) := by decide +kernel
theorem dL_law_521 : decode code 521 = .ok (.aload_n 2, 1) := by decide +kernel
theorem dL_law_522 : decode code 522 = .ok (.invokevirtual 105, 3) := by decide +kernel
theorem dL_law_525 : decode code 525 = .ok (.if_icmp .eq 744, 3) := by decide +kernel
theorem dL_law_686 : decode code 686 = .ok (.aload_n 1, 1) := by decide +kernel
theorem dL_law_687 : decode code 687 = .ok (.invokevirtual 116, 3) := by decide +kernel
theorem dL_law_690 : decode code 690 = .ok (.aload_n 2, 1) := by decide +kernel
theorem dL_law_691 : decode code 691 = .ok (.invokevirtual 119, 3) := by decide +kernel
theorem dL_law_694 : decode code 694 = .ok (.if_icmp .eq 575, 3) := by decide +kernel
theorem dL_law_1255 : decode code 1255 = .ok (.aload_n 1, 1) := by decide +kernel
theorem dL_law_1256 : decode code 1256 = .ok (.invokevirtual 154, 3) := by decide +kernel
theorem dL_law_1259 : decode code 1259 = .ok (.aload_n 2, 1) := by decide +kernel
theorem dL_law_1260 : decode code 1260 = .ok (.invokevirtual 158, 3) := by decide +kernel
theorem dL_law_1263 : decode code 1263 = .ok (.lcmp, 1) := by decide +kernel
theorem dL_law_1264 : decode code 1264 = .ok (.ifCond .eq 5, 3) := by decide +kernel
set_option maxHeartbeats 1000000 in
set_option maxRecDepth 100000 in
theorem lw_c6 {p : Program} {l : Launch} {e : Env} {s : State} {m : MethodId} {below : List Frame} {meth : Method} {c : Code} {G : GT} {b L : Nat} {xs : Nat → Int32} (hC : CX p s m meth c (lawName meth) code 9 ret #[Value.ref b]) (hT : l.stackTraces = false) (hK0 : KN G s s.heap) (hgl : gL G = s.heap.size) (hX : va_X b L xs s s.heap) (hbl : b < s.heap.size) {n : Nat} {i4 : Int32} (hn : n < 512) (h1 : vp_in (i4 + 1) L) (h2 : vp_in (i4 + 2) L) (kk : LAt p l e s m below meth c G b 1269 (n + 1) i4) : LAt p l e s m below meth c G b 504 n i4 := by
  intro a b0 q w x v hs y H locs cells slots ls hR hW hS hc hs9 hl
  have hbA : ¬ (fun z : Nat => s.heap.size ≤ z) b := Nat.not_le.mpr hbl
  have hAL : ∀ z, s.heap.size ≤ z → gL G ≤ z := fun z h => by rw [hgl]; exact h
  have hKN := hK0.go hAL hS
  have hpx := RelH_x hR
  have hpv := RelH_v hR
  obtain ⟨x1, ex1⟩ : ∃ z, z = xs (i4 + 1).toNatClampNeg := ⟨_, rfl⟩
  obtain ⟨x2, ex2⟩ : ∃ z, z = xs (i4 + 2).toNatClampNeg := ⟨_, rfl⟩
  refine lv_aload_n hC.1 hC.2.1 dL_law_504 rfl (lv_at hl 3 rfl) ?_
  have hop := op_clearBuffer hR
  refine runE (rV (B := fun U H => PW G (hdW G a b0 x) H) (As := []) (rest := []) hC mwX5_clearBuffer (c_X5_clearBuffer l G a b0 x hW.1) iwX5_clearBuffer wd_228 ⟨rfl, rfl⟩ ⟨Nat.le_of_ble_eq_true rfl, Nat.le_of_ble_eq_true rfl⟩ (stb_h (fun H => PW G (hdW G a b0 x) H)) hKN hW.Ph (va_recv hKN.k hW.Ph (ci := 5) (q0 := 0) rfl rfl) rfl hl.1 rfl (Nat.le_of_ble_eq_true rfl) dL_law_505 ⟨(show _ ≤ 601024 by omega), (show _ ≤ 7293034 by omega)⟩) hS hW.Ah hW.Ah (fun H1 locs1 hB hz hk hS => ?_)
  have hW := hW.hd hB hk
  have hKN := hK0.go hAL hS
  obtain ⟨F, eF⟩ : ∃ F, F = fX5_clearBuffer x := ⟨_, rfl⟩
  rw [← eF] at hop hW ⊢
  refine lv_aload_n hC.1 hC.2.1 dL_law_508 rfl (lv_at hl 2 rfl) ?_
  refine runE (rV (B := fun U H => PW G (mdW G q v hs) H) (As := []) (rest := [.int F.2]) hC mwX6_clearBuffer (c_X6_clearBuffer l G q v hs hW.2.1) iwX6_clearBuffer wd_1070 ⟨rfl, rfl⟩ ⟨Nat.le_of_ble_eq_true rfl, Nat.le_of_ble_eq_true rfl⟩ (stb_h (fun H => PW G (mdW G q v hs) H)) hKN hW.P2 (va_recv hKN.k hW.P2 (ci := 6) (q0 := 0) rfl rfl) rfl hl.1 rfl (Nat.le_of_ble_eq_true rfl) dL_law_509 ⟨(show _ ≤ 601024 by omega), (show _ ≤ 7293034 by omega)⟩) hS hW.A2 hW.A2 (fun H2 locs2 hB hz hk hS => ?_)
  have hW := hW.right hB hk
  have hKN := hK0.go hAL hS
  obtain ⟨o1, o2⟩ := hop
  refine lv_icmp_eq (tgt := 1269) hC.1 hC.2.1 dL_law_512 (by decide) (fun _ => ?_) (fun h => absurd o2 h)
  exact kk a b0 q w _ _ hs y _ _ _ _ ls o1 hW hS (by omega) (by omega) hl
set_option maxHeartbeats 1000000 in
set_option maxRecDepth 100000 in
theorem lw_c7 {p : Program} {l : Launch} {e : Env} {s : State} {m : MethodId} {below : List Frame} {meth : Method} {c : Code} {G : GT} {b L : Nat} {xs : Nat → Int32} (hC : CX p s m meth c (lawName meth) code 9 ret #[Value.ref b]) (hT : l.stackTraces = false) (hK0 : KN G s s.heap) (hgl : gL G = s.heap.size) (hX : va_X b L xs s s.heap) (hbl : b < s.heap.size) {n : Nat} {i4 : Int32} (hn : n < 512) (h1 : vp_in (i4 + 1) L) (h2 : vp_in (i4 + 2) L) (kk : LAt p l e s m below meth c G b 1269 (n + 1) i4) : LAt p l e s m below meth c G b 517 n i4 := by
  intro a b0 q w x v hs y H locs cells slots ls hR hW hS hc hs9 hl
  have hbA : ¬ (fun z : Nat => s.heap.size ≤ z) b := Nat.not_le.mpr hbl
  have hAL : ∀ z, s.heap.size ≤ z → gL G ≤ z := fun z h => by rw [hgl]; exact h
  have hKN := hK0.go hAL hS
  have hpx := RelH_x hR
  have hpv := RelH_v hR
  obtain ⟨x1, ex1⟩ : ∃ z, z = xs (i4 + 1).toNatClampNeg := ⟨_, rfl⟩
  obtain ⟨x2, ex2⟩ : ∃ z, z = xs (i4 + 2).toNatClampNeg := ⟨_, rfl⟩
  refine lv_aload_n hC.1 hC.2.1 dL_law_517 rfl (lv_at hl 3 rfl) ?_
  have hop := op_firstError hR
  refine runE (rV (B := fun U H => PW G (hdW G a b0 x) H) (As := []) (rest := []) hC mwX5_firstError (c_X5_firstError l G a b0 x hW.1 (by first | exact hpx.1 | exact hpx.2 | exact hpx)) iwX5_firstError wd_232 ⟨rfl, rfl⟩ ⟨Nat.le_of_ble_eq_true rfl, Nat.le_of_ble_eq_true rfl⟩ (stb_h (fun H => PW G (hdW G a b0 x) H)) hKN hW.Ph (va_recv hKN.k hW.Ph (ci := 5) (q0 := 0) rfl rfl) rfl hl.1 rfl (Nat.le_of_ble_eq_true rfl) dL_law_518 ⟨(show _ ≤ 601024 by omega), (show _ ≤ 7293034 by omega)⟩) hS hW.Ah hW.Ah (fun H1 locs1 hB hz hk hS => ?_)
  have hW := hW.hd hB hk
  have hKN := hK0.go hAL hS
  obtain ⟨F, eF⟩ : ∃ F, F = fX5_firstError x := ⟨_, rfl⟩
  rw [← eF] at hop hW ⊢
  refine lv_aload_n hC.1 hC.2.1 dL_law_521 rfl (lv_at hl 2 rfl) ?_
  refine runE (rV (B := fun U H => PW G (mdW G q v hs) H) (As := []) (rest := [.int F.2]) hC mwX6_firstError (c_X6_firstError l G q v hs hW.2.1 (by first | exact hpv.1 | exact hpv.1.1 | exact hpv.1.2 | exact hpv.2.1 | exact hpv.2.2 | exact hpv.2.2.2.1 | exact ⟨hpv.1.1, hpv.1.2, hpv.2.1⟩)) iwX6_firstError wd_1074 ⟨rfl, rfl⟩ ⟨Nat.le_of_ble_eq_true rfl, Nat.le_of_ble_eq_true rfl⟩ (stb_h (fun H => PW G (mdW G q v hs) H)) hKN hW.P2 (va_recv hKN.k hW.P2 (ci := 6) (q0 := 0) rfl rfl) rfl hl.1 rfl (Nat.le_of_ble_eq_true rfl) dL_law_522 ⟨(show _ ≤ 601024 by omega), (show _ ≤ 7293034 by omega)⟩) hS hW.A2 hW.A2 (fun H2 locs2 hB hz hk hS => ?_)
  have hW := hW.right hB hk
  have hKN := hK0.go hAL hS
  obtain ⟨o1, o2⟩ := hop
  refine lv_icmp_eq (tgt := 1269) hC.1 hC.2.1 dL_law_525 (by decide) (fun _ => ?_) (fun h => absurd o2 h)
  exact kk a b0 q w _ _ hs y _ _ _ _ ls o1 hW hS (by omega) (by omega) hl
set_option maxHeartbeats 1000000 in
set_option maxRecDepth 100000 in
theorem lw_c11 {p : Program} {l : Launch} {e : Env} {s : State} {m : MethodId} {below : List Frame} {meth : Method} {c : Code} {G : GT} {b L : Nat} {xs : Nat → Int32} (hC : CX p s m meth c (lawName meth) code 9 ret #[Value.ref b]) (hT : l.stackTraces = false) (hK0 : KN G s s.heap) (hgl : gL G = s.heap.size) (hX : va_X b L xs s s.heap) (hbl : b < s.heap.size) {n : Nat} {i4 : Int32} (hn : n < 512) (h1 : vp_in (i4 + 1) L) (h2 : vp_in (i4 + 2) L) (kk : LAt p l e s m below meth c G b 1269 (n + 1) i4) : LAt p l e s m below meth c G b 686 n i4 := by
  intro a b0 q w x v hs y H locs cells slots ls hR hW hS hc hs9 hl
  have hbA : ¬ (fun z : Nat => s.heap.size ≤ z) b := Nat.not_le.mpr hbl
  have hAL : ∀ z, s.heap.size ≤ z → gL G ≤ z := fun z h => by rw [hgl]; exact h
  have hKN := hK0.go hAL hS
  have hpx := RelH_x hR
  have hpv := RelH_v hR
  obtain ⟨x1, ex1⟩ : ∃ z, z = xs (i4 + 1).toNatClampNeg := ⟨_, rfl⟩
  obtain ⟨x2, ex2⟩ : ∃ z, z = xs (i4 + 2).toNatClampNeg := ⟨_, rfl⟩
  refine lv_aload_n hC.1 hC.2.1 dL_law_686 rfl (lv_at hl 3 rfl) ?_
  have hop := op_keep hR
  refine runE (rV (B := fun U H => PW G (hdW G a b0 x) H) (As := []) (rest := []) hC mwX5_keep (c_X5_keep l G a b0 x hW.1) iwX5_keep wd_360 ⟨rfl, rfl⟩ ⟨Nat.le_of_ble_eq_true rfl, Nat.le_of_ble_eq_true rfl⟩ (stb_h (fun H => PW G (hdW G a b0 x) H)) hKN hW.Ph (va_recv hKN.k hW.Ph (ci := 5) (q0 := 0) rfl rfl) rfl hl.1 rfl (Nat.le_of_ble_eq_true rfl) dL_law_687 ⟨(show _ ≤ 601024 by omega), (show _ ≤ 7293034 by omega)⟩) hS hW.Ah hW.Ah (fun H1 locs1 hB hz hk hS => ?_)
  have hW := hW.hd hB hk
  have hKN := hK0.go hAL hS
  obtain ⟨F, eF⟩ : ∃ F, F = fX5_keep x := ⟨_, rfl⟩
  rw [← eF] at hop hW ⊢
  refine lv_aload_n hC.1 hC.2.1 dL_law_690 rfl (lv_at hl 2 rfl) ?_
  refine runE (rV (B := fun U H => PW G (mdW G q v hs) H) (As := []) (rest := [.int F.2]) hC mwX6_keep (c_X6_keep l G q v hs hW.2.1) iwX6_keep wd_954 ⟨rfl, rfl⟩ ⟨Nat.le_of_ble_eq_true rfl, Nat.le_of_ble_eq_true rfl⟩ (stb_h (fun H => PW G (mdW G q v hs) H)) hKN hW.P2 (va_recv hKN.k hW.P2 (ci := 6) (q0 := 0) rfl rfl) rfl hl.1 rfl (Nat.le_of_ble_eq_true rfl) dL_law_691 ⟨(show _ ≤ 601024 by omega), (show _ ≤ 7293034 by omega)⟩) hS hW.A2 hW.A2 (fun H2 locs2 hB hz hk hS => ?_)
  have hW := hW.right hB hk
  have hKN := hK0.go hAL hS
  obtain ⟨o1, o2⟩ := hop
  refine lv_icmp_eq (tgt := 1269) hC.1 hC.2.1 dL_law_694 (by decide) (fun _ => ?_) (fun h => absurd o2 h)
  exact kk a b0 q w _ _ hs y _ _ _ _ ls o1 hW hS (by omega) (by omega) hl
set_option maxHeartbeats 1000000 in
set_option maxRecDepth 100000 in
theorem lw_c22 {p : Program} {l : Launch} {e : Env} {s : State} {m : MethodId} {below : List Frame} {meth : Method} {c : Code} {G : GT} {b L : Nat} {xs : Nat → Int32} (hC : CX p s m meth c (lawName meth) code 9 ret #[Value.ref b]) (hT : l.stackTraces = false) (hK0 : KN G s s.heap) (hgl : gL G = s.heap.size) (hX : va_X b L xs s s.heap) (hbl : b < s.heap.size) {n : Nat} {i4 : Int32} (hn : n < 512) (h1 : vp_in (i4 + 1) L) (h2 : vp_in (i4 + 2) L) (kk : LAt p l e s m below meth c G b 1269 (n + 1) i4) : LAt p l e s m below meth c G b 1255 n i4 := by
  intro a b0 q w x v hs y H locs cells slots ls hR hW hS hc hs9 hl
  have hbA : ¬ (fun z : Nat => s.heap.size ≤ z) b := Nat.not_le.mpr hbl
  have hAL : ∀ z, s.heap.size ≤ z → gL G ≤ z := fun z h => by rw [hgl]; exact h
  have hKN := hK0.go hAL hS
  have hpx := RelH_x hR
  have hpv := RelH_v hR
  obtain ⟨x1, ex1⟩ : ∃ z, z = xs (i4 + 1).toNatClampNeg := ⟨_, rfl⟩
  obtain ⟨x2, ex2⟩ : ∃ z, z = xs (i4 + 2).toNatClampNeg := ⟨_, rfl⟩
  refine lv_aload_n hC.1 hC.2.1 dL_law_1255 rfl (lv_at hl 3 rfl) ?_
  have hop := op_digest hs hR hn
  refine runE (rV (B := fun U H => PW G (hdW G a b0 x) H) (As := []) (rest := []) hC mwX5_digest (c_X5_digest l G a b0 x hW.1) iwX5_digest wd_395 ⟨rfl, rfl⟩ ⟨Nat.le_of_ble_eq_true rfl, Nat.le_of_ble_eq_true rfl⟩ (stb_h (fun H => PW G (hdW G a b0 x) H)) hKN hW.Ph (va_recv hKN.k hW.Ph (ci := 5) (q0 := 0) rfl rfl) rfl hl.1 rfl (Nat.le_of_ble_eq_true rfl) dL_law_1256 ⟨(show _ ≤ 601024 by omega), (show _ ≤ 7293034 by omega)⟩) hS hW.Ah hW.Ah (fun H1 locs1 hB hz hk hS => ?_)
  have hW := hW.hd hB hk
  have hKN := hK0.go hAL hS
  obtain ⟨F, eF⟩ : ∃ F, F = fX5_digest x := ⟨_, rfl⟩
  rw [← eF] at hop hW ⊢
  refine lv_aload_n hC.1 hC.2.1 dL_law_1259 rfl (lv_at hl 2 rfl) ?_
  refine runE (rV (B := fun U H => PW G (mdW G q v hs) H) (As := []) (rest := [.long F.2]) hC mwX6_digest (c_X6_digest l G q v hs hW.2.1 (by first | exact hpv.1 | exact hpv.1.1 | exact hpv.1.2 | exact hpv.2.1 | exact hpv.2.2 | exact hpv.2.2.2.1 | exact ⟨hpv.1.1, hpv.1.2, hpv.2.1⟩)) iwX6_digest wd_1215 ⟨rfl, rfl⟩ ⟨Nat.le_of_ble_eq_true rfl, Nat.le_of_ble_eq_true rfl⟩ (stb_h (fun H => PW G (mdW G q v hs) H)) hKN hW.P2 (va_recv hKN.k hW.P2 (ci := 6) (q0 := 0) rfl rfl) rfl hl.1 rfl (Nat.le_of_ble_eq_true rfl) dL_law_1260 ⟨(show _ ≤ 601024 by omega), (show _ ≤ 7293034 by omega)⟩) hS hW.A2 hW.A2 (fun H2 locs2 hB hz hk hS => ?_)
  have hW := hW.right hB hk
  have hKN := hK0.go hAL hS
  obtain ⟨o1, o2⟩ := hop
  refine lv_lcmpE hC.1 hC.2.1 dL_law_1263 o2 ?_
  refine lv_if_eq (tgt := 1269) hC.1 hC.2.1 dL_law_1264 (by decide) (fun _ => ?_) (fun h => absurd rfl h)
  exact kk a b0 q w _ _ _ y _ _ _ _ ls o1 hW hS (by omega) (by omega) hl
