theorem lw_new {G : GT} {A : Nat → Prop} {H : Heap} {z0 z1 z2 z3 z4 : Nat} (hP : PW G [(z0, .inl (gI G, 24, .inl (fun _ => 0))), (z1, .inl (gI G, 24, .inl (fun _ => 0))), (z2, .inl (gI G, 24, .inl (fun _ => 0))), (z3, .inl (gI G, 36, .inl (fun _ => 0))), (z4, .inl (gI G, 21, .inl (fun _ => 0)))] H) (hD : va_D A [(z0, .inl (gI G, 24, .inl (fun _ => 0))), (z1, .inl (gI G, 24, .inl (fun _ => 0))), (z2, .inl (gI G, 24, .inl (fun _ => 0))), (z3, .inl (gI G, 36, .inl (fun _ => 0))), (z4, .inl (gI G, 21, .inl (fun _ => 0)))]) (hA : ∀ z, A z → gL G ≤ z) :
    lwD G (qW z0 z1 z2 z3 z4) ∧ (∀ z, lwA (qW z0 z1 z2 z3 z4) z → A z) ∧ PW G (lwW G (qW z0 z1 z2 z3 z4) (mkL (fun _ => 0) (fun _ => 0) (fun _ => 0) (fun _ => 0) (fun _ => 0))) H := by
  obtain ⟨h1, h2⟩ := D_inv (n := 5) (q := qW z0 z1 z2 z3 z4) rfl hD
  exact ⟨⟨fun i hi => hA _ (h1 i hi), h2⟩, fun z ⟨i, hi, e⟩ => by rw [e]; exact h1 i hi, hP⟩
theorem dL_law_0 : decode code 0 = .ok (.new 36, 3) := by decide +kernel
theorem dL_law_3 : decode code 3 = .ok (.dup, 1) := by decide +kernel
theorem dL_law_4 : decode code 4 = .ok (.invokespecial 104, 3) := by decide +kernel
theorem dL_law_7 : decode code 7 = .ok (.astore_n 1, 1) := by decide +kernel
theorem dL_law_8 : decode code 8 = .ok (.bipush 24, 2) := by decide +kernel
theorem dL_law_10 : decode code 10 = .ok (.newarray .int, 2) := by decide +kernel
theorem dL_law_12 : decode code 12 = .ok (.astore_n 2, 1) := by decide +kernel
theorem dL_law_13 : decode code 13 = .ok (.bipush 24, 2) := by decide +kernel
theorem dL_law_15 : decode code 15 = .ok (.newarray .int, 2) := by decide +kernel
theorem dL_law_17 : decode code 17 = .ok (.astore_n 3, 1) := by decide +kernel
theorem dL_law_18 : decode code 18 = .ok (.bipush 24, 2) := by decide +kernel
theorem dL_law_20 : decode code 20 = .ok (.newarray .int, 2) := by decide +kernel
theorem dL_law_22 : decode code 22 = .ok (.astore 4, 2) := by decide +kernel
theorem dL_law_24 : decode code 24 = .ok (.bipush 36, 2) := by decide +kernel
theorem dL_law_26 : decode code 26 = .ok (.newarray .int, 2) := by decide +kernel
theorem dL_law_28 : decode code 28 = .ok (.astore 5, 2) := by decide +kernel
theorem dL_law_30 : decode code 30 = .ok (.bipush 21, 2) := by decide +kernel
theorem dL_law_32 : decode code 32 = .ok (.newarray .int, 2) := by decide +kernel
theorem dL_law_34 : decode code 34 = .ok (.astore 6, 2) := by decide +kernel
theorem dL_law_36 : decode code 36 = .ok (.aload 6, 2) := by decide +kernel
theorem dL_law_38 : decode code 38 = .ok (.iconst 0, 1) := by decide +kernel
theorem dL_law_39 : decode code 39 = .ok (.bipush 120, 2) := by decide +kernel
theorem dL_law_41 : decode code 41 = .ok (.iastore, 1) := by decide +kernel
theorem dL_law_42 : decode code 42 = .ok (.aload 6, 2) := by decide +kernel
theorem dL_law_44 : decode code 44 = .ok (.iconst 1, 1) := by decide +kernel
theorem dL_law_45 : decode code 45 = .ok (.bipush 40, 2) := by decide +kernel
theorem dL_law_47 : decode code 47 = .ok (.iastore, 1) := by decide +kernel
theorem dL_law_48 : decode code 48 = .ok (.aload 6, 2) := by decide +kernel
theorem dL_law_50 : decode code 50 = .ok (.iconst 2, 1) := by decide +kernel
theorem dL_law_51 : decode code 51 = .ok (.sipush 500, 3) := by decide +kernel
theorem dL_law_54 : decode code 54 = .ok (.iastore, 1) := by decide +kernel
theorem dL_law_55 : decode code 55 = .ok (.aload 6, 2) := by decide +kernel
theorem dL_law_57 : decode code 57 = .ok (.iconst 3, 1) := by decide +kernel
theorem dL_law_58 : decode code 58 = .ok (.bipush 8, 2) := by decide +kernel
theorem dL_law_60 : decode code 60 = .ok (.iastore, 1) := by decide +kernel
theorem dL_law_61 : decode code 61 = .ok (.aload 6, 2) := by decide +kernel
theorem dL_law_63 : decode code 63 = .ok (.iconst 4, 1) := by decide +kernel
theorem dL_law_64 : decode code 64 = .ok (.bipush 100, 2) := by decide +kernel
theorem dL_law_66 : decode code 66 = .ok (.iastore, 1) := by decide +kernel
theorem dL_law_67 : decode code 67 = .ok (.aload 6, 2) := by decide +kernel
theorem dL_law_69 : decode code 69 = .ok (.bipush 6, 2) := by decide +kernel
theorem dL_law_71 : decode code 71 = .ok (.iconst 5, 1) := by decide +kernel
theorem dL_law_72 : decode code 72 = .ok (.iastore, 1) := by decide +kernel
theorem dL_law_73 : decode code 73 = .ok (.aload_n 1, 1) := by decide +kernel
theorem dL_law_74 : decode code 74 = .ok (.aload_n 2, 1) := by decide +kernel
theorem dL_law_75 : decode code 75 = .ok (.aload_n 3, 1) := by decide +kernel
theorem dL_law_76 : decode code 76 = .ok (.aload 4, 2) := by decide +kernel
theorem dL_law_78 : decode code 78 = .ok (.aload 6, 2) := by decide +kernel
theorem dL_law_80 : decode code 80 = .ok (.invokestatic 105, 3) := by decide +kernel
theorem dL_law_83 : decode code 83 = .ok (.ifCond .eq 18, 3) := by decide +kernel
theorem dL_law_86 : decode code 86 = .ok (.aload_n 1, 1) := by decide +kernel
theorem dL_law_87 : decode code 87 = .ok (.aload 5, 2) := by decide +kernel
theorem dL_law_89 : decode code 89 = .ok (.aload 6, 2) := by decide +kernel
theorem dL_law_91 : decode code 91 = .ok (.invokestatic 109, 3) := by decide +kernel
theorem dL_law_94 : decode code 94 = .ok (.ifCond .eq 7, 3) := by decide +kernel
theorem dL_law_97 : decode code 97 = .ok (.iconst 1, 1) := by decide +kernel
theorem dL_law_98 : decode code 98 = .ok (.goto 4, 3) := by decide +kernel
theorem dL_law_102 : decode code 102 = .ok (.istore 7, 2) := by decide +kernel
theorem dL_law_104 : decode code 104 = .ok (.iconst 0, 1) := by decide +kernel
theorem dL_law_105 : decode code 105 = .ok (.istore 8, 2) := by decide +kernel
set_option maxHeartbeats 4000000 in
set_option maxRecDepth 100000 in
theorem lw_entry {p : Program} {l : Launch} {e : Env} {s : State} {m : MethodId} {below : List Frame} {meth : Method} {c : Code} {G : GT} {b L : Nat} {xs : Nat → Int32} (hC : CX p s m meth c (lawName meth) code 10 ret #[Value.ref b]) (hK0 : KN G s s.heap) (hgl : gL G = s.heap.size) (hX : va_X b L xs s s.heap) (hbl : b < s.heap.size) : ∀ ls : Array Slot, lv_has ls 10 [(0, .ref b)] → W p l e room_1 s m #[Value.ref b] below meth c s.heap [] 0 0 (lw_Z below #[Value.ref b] s) (F0 m 0 ls []) := by
  intro ls hl
  have hbA : ¬ (fun z : Nat => s.heap.size ≤ z) b := Nat.not_le.mpr hbl
  have hAL : ∀ z, s.heap.size ≤ z → gL G ≤ z := fun z h => by rw [hgl]; exact h
  have hS : va_S (fun z : Nat => s.heap.size ≤ z) s.heap s.heap [] := va_S.rf
  have hP : PW G [] s.heap := fun k q h => by simp at h
  have hD : va_D (fun z : Nat => s.heap.size ≤ z) [] := ⟨fun i j p q h => by simp at h, fun k q h => by simp at h⟩
  refine nwO hC (hK0.go hAL hS) hP hD hS (fun _ h => h) fwX5 (ci := 5) rfl wd_15 wd_16 wd_1 (fs := [.null, .null, .null, .null, .null, .null, .int 0, .int 0]) (by decide) (Nat.le_of_ble_eq_true rfl) (Nat.le_of_ble_eq_true rfl) dL_law_0 (fun z5 H1 hP1 hD1 hSa hz5 => ?_)
  have hS := hSa
  refine lv_dup hC.1 hC.2.1 dL_law_3 rfl ?_
  refine runE (rI (B := fun _ H => H.size = H1.size ∧ PW G [(z5, .inr (5, [.null, .null, .null, .null, .null, .null, .int 0, .int 0]))] H) (rest := [.ref z5]) hC mwX5_init (c_X5_init l G z5 H1.size hz5) rfl wd_18 wd_17 ⟨rfl, rfl⟩ ⟨Nat.le_of_ble_eq_true rfl, Nat.le_of_ble_eq_true rfl⟩ (stb_h (fun H => H.size = H1.size ∧ PW G [(z5, .inr (5, [.null, .null, .null, .null, .null, .null, .int 0, .int 0]))] H)) (hK0.go hAL hS) ⟨rfl, hP1⟩ hl.1 (Nat.le_of_ble_eq_true rfl) dL_law_4 ⟨Nat.le_of_ble_eq_true rfl, Nat.le_of_ble_eq_true rfl⟩) hS (mk_free (L := []) hD1 (fun z h => Nat.le_trans hS.1 h)) (mk_free (L := []) hD1 (fun z h => Nat.le_trans hS.1 h)) (fun H2 locs2 hn _ hk hS2 => ?_)
  obtain ⟨a, b0, ea, hq, hPh, hin⟩ := hn
  subst ea
  refine lv_astore_n (lv' := [(1, .ref (a 0)), (0, .ref b)]) hC.1 hC.2.1 dL_law_7 rfl hl (by decide) rfl (fun ls hl => ?_)
  have hAh : ∀ z, hdA a b0 z → s.heap.size ≤ z := fun z hz => mk_free (L := []) hD1 (fun z h => Nat.le_trans hSa.1 h) z (hin z hz)
  refine va_forget (fun q hq => hS2.2.2 q hq) ?_
  have hPh0 := hPh
  have hK2 := hK0.go hAL hS2
  have hN2 : gL G ≤ H2.size := by rw [hgl]; exact hS2.1
  have hAN : ∀ z, wdN H2.size z → gL G ≤ z := fun z h => Nat.le_trans hN2 h
  have hS : va_S (wdN H2.size) H2 H2 [] := va_S.rf
  have hP : PW G [] H2 := fun k q h => by simp at h
  have hD : va_D (wdN H2.size) [] := ⟨fun i j p q h => by simp at h, fun k q h => by simp at h⟩
  refine lv_bipush (v := 24) hC.1 hC.2.1 dL_law_8 (by decide +kernel) ?_
  refine nwI hC (hK2.go hAN hS) hP hD hS (fun _ h => h) 24 rfl (by decide) (Nat.le_of_ble_eq_true rfl) (Nat.le_of_ble_eq_true rfl) dL_law_10 (fun z0 H3 hP hD hS => ?_)
  refine lv_astore_n (lv' := [(2, .ref z0), (1, .ref (a 0)), (0, .ref b)]) hC.1 hC.2.1 dL_law_12 rfl hl (by decide) rfl (fun ls hl => ?_)
  refine lv_bipush (v := 24) hC.1 hC.2.1 dL_law_13 (by decide +kernel) ?_
  refine nwI hC (hK2.go hAN hS) hP hD hS (fun _ h => h) 24 rfl (by decide) (Nat.le_of_ble_eq_true rfl) (Nat.le_of_ble_eq_true rfl) dL_law_15 (fun z1 H4 hP hD hS => ?_)
  refine lv_astore_n (lv' := [(3, .ref z1), (2, .ref z0), (1, .ref (a 0)), (0, .ref b)]) hC.1 hC.2.1 dL_law_17 rfl hl (by decide) rfl (fun ls hl => ?_)
  refine lv_bipush (v := 24) hC.1 hC.2.1 dL_law_18 (by decide +kernel) ?_
  refine nwI hC (hK2.go hAN hS) hP hD hS (fun _ h => h) 24 rfl (by decide) (Nat.le_of_ble_eq_true rfl) (Nat.le_of_ble_eq_true rfl) dL_law_20 (fun z2 H5 hP hD hS => ?_)
  refine lv_astore (lv' := [(4, .ref z2), (3, .ref z1), (2, .ref z0), (1, .ref (a 0)), (0, .ref b)]) hC.1 hC.2.1 dL_law_22 hl (by decide) rfl (fun ls hl => ?_)
  refine lv_bipush (v := 36) hC.1 hC.2.1 dL_law_24 (by decide +kernel) ?_
  refine nwI hC (hK2.go hAN hS) hP hD hS (fun _ h => h) 36 rfl (by decide) (Nat.le_of_ble_eq_true rfl) (Nat.le_of_ble_eq_true rfl) dL_law_26 (fun z3 H6 hP hD hS => ?_)
  refine lv_astore (lv' := [(5, .ref z3), (4, .ref z2), (3, .ref z1), (2, .ref z0), (1, .ref (a 0)), (0, .ref b)]) hC.1 hC.2.1 dL_law_28 hl (by decide) rfl (fun ls hl => ?_)
  refine lv_bipush (v := 21) hC.1 hC.2.1 dL_law_30 (by decide +kernel) ?_
  refine nwI hC (hK2.go hAN hS) hP hD hS (fun _ h => h) 21 rfl (by decide) (Nat.le_of_ble_eq_true rfl) (Nat.le_of_ble_eq_true rfl) dL_law_32 (fun z4 H7 hP hD hS => ?_)
  refine lv_astore (lv' := [(6, .ref z4), (5, .ref z3), (4, .ref z2), (3, .ref z1), (2, .ref z0), (1, .ref (a 0)), (0, .ref b)]) hC.1 hC.2.1 dL_law_34 hl (by decide) rfl (fun ls hl => ?_)
  obtain ⟨hql, hqA, hP⟩ := lw_new hP hD hAN
  obtain ⟨q, eq⟩ : ∃ q, q = qW z0 z1 z2 z3 z4 := ⟨_, rfl⟩
  have hl : lv_has ls 10 [(6, .ref (qW z0 z1 z2 z3 z4 4)), (5, .ref (qW z0 z1 z2 z3 z4 3)), (4, .ref (qW z0 z1 z2 z3 z4 2)), (3, .ref (qW z0 z1 z2 z3 z4 1)), (2, .ref (qW z0 z1 z2 z3 z4 0)), (1, .ref (a 0)), (0, .ref b)] := hl
  rw [← eq] at hql hqA hP hl
  have hlN : ∀ z, lwA q z → H2.size ≤ z := hqA
  have hDq : ∀ v, va_D (wdN H2.size) (lwW G q v) := fun v => va_D_mono (lwD_D hql v) hqA
  refine lv_aload hC.1 hC.2.1 dL_law_36 (lv_at hl 0 rfl) ?_
  refine lv_iconst (v := 0) hC.1 hC.2.1 dL_law_38 (by decide +kernel) ?_
  refine lv_bipush (v := 120) hC.1 hC.2.1 dL_law_39 (by decide +kernel) ?_
  refine iast_k hC (hK2.go hAN hS) hP (hDq (mkL (fun _ => 0) (fun _ => 0) (fun _ => 0) (fun _ => 0) (fun _ => 0))) hS 4 rfl (n := 21) (f := (fun _ => 0)) 0 (by decide +kernel) (by decide) (by decide) dL_law_41 (fun H8 locs8 hP hS => ?_)
  have hP : PW G (lwW G q (mkL (fun _ => 0) (fun _ => 0) (fun _ => 0) (fun _ => 0) (upd (fun _ => 0) 0 120))) H8 := hP
  refine lv_aload hC.1 hC.2.1 dL_law_42 (lv_at hl 0 rfl) ?_
  refine lv_iconst (v := 1) hC.1 hC.2.1 dL_law_44 (by decide +kernel) ?_
  refine lv_bipush (v := 40) hC.1 hC.2.1 dL_law_45 (by decide +kernel) ?_
  refine iast_k hC (hK2.go hAN hS) hP (hDq (mkL (fun _ => 0) (fun _ => 0) (fun _ => 0) (fun _ => 0) (upd (fun _ => 0) 0 120))) hS 4 rfl (n := 21) (f := (upd (fun _ => 0) 0 120)) 1 (by decide +kernel) (by decide) (by decide) dL_law_47 (fun H9 locs9 hP hS => ?_)
  have hP : PW G (lwW G q (mkL (fun _ => 0) (fun _ => 0) (fun _ => 0) (fun _ => 0) (upd (upd (fun _ => 0) 0 120) 1 40))) H9 := hP
  refine lv_aload hC.1 hC.2.1 dL_law_48 (lv_at hl 0 rfl) ?_
  refine lv_iconst (v := 2) hC.1 hC.2.1 dL_law_50 (by decide +kernel) ?_
  refine lv_sipush (v := 500) hC.1 hC.2.1 dL_law_51 (by decide +kernel) ?_
  refine iast_k hC (hK2.go hAN hS) hP (hDq (mkL (fun _ => 0) (fun _ => 0) (fun _ => 0) (fun _ => 0) (upd (upd (fun _ => 0) 0 120) 1 40))) hS 4 rfl (n := 21) (f := (upd (upd (fun _ => 0) 0 120) 1 40)) 2 (by decide +kernel) (by decide) (by decide) dL_law_54 (fun H10 locs10 hP hS => ?_)
  have hP : PW G (lwW G q (mkL (fun _ => 0) (fun _ => 0) (fun _ => 0) (fun _ => 0) (upd (upd (upd (fun _ => 0) 0 120) 1 40) 2 500))) H10 := hP
  refine lv_aload hC.1 hC.2.1 dL_law_55 (lv_at hl 0 rfl) ?_
  refine lv_iconst (v := 3) hC.1 hC.2.1 dL_law_57 (by decide +kernel) ?_
  refine lv_bipush (v := 8) hC.1 hC.2.1 dL_law_58 (by decide +kernel) ?_
  refine iast_k hC (hK2.go hAN hS) hP (hDq (mkL (fun _ => 0) (fun _ => 0) (fun _ => 0) (fun _ => 0) (upd (upd (upd (fun _ => 0) 0 120) 1 40) 2 500))) hS 4 rfl (n := 21) (f := (upd (upd (upd (fun _ => 0) 0 120) 1 40) 2 500)) 3 (by decide +kernel) (by decide) (by decide) dL_law_60 (fun H11 locs11 hP hS => ?_)
  have hP : PW G (lwW G q (mkL (fun _ => 0) (fun _ => 0) (fun _ => 0) (fun _ => 0) (upd (upd (upd (upd (fun _ => 0) 0 120) 1 40) 2 500) 3 8))) H11 := hP
  refine lv_aload hC.1 hC.2.1 dL_law_61 (lv_at hl 0 rfl) ?_
  refine lv_iconst (v := 4) hC.1 hC.2.1 dL_law_63 (by decide +kernel) ?_
  refine lv_bipush (v := 100) hC.1 hC.2.1 dL_law_64 (by decide +kernel) ?_
  refine iast_k hC (hK2.go hAN hS) hP (hDq (mkL (fun _ => 0) (fun _ => 0) (fun _ => 0) (fun _ => 0) (upd (upd (upd (upd (fun _ => 0) 0 120) 1 40) 2 500) 3 8))) hS 4 rfl (n := 21) (f := (upd (upd (upd (upd (fun _ => 0) 0 120) 1 40) 2 500) 3 8)) 4 (by decide +kernel) (by decide) (by decide) dL_law_66 (fun H12 locs12 hP hS => ?_)
  have hP : PW G (lwW G q (mkL (fun _ => 0) (fun _ => 0) (fun _ => 0) (fun _ => 0) (upd (upd (upd (upd (upd (fun _ => 0) 0 120) 1 40) 2 500) 3 8) 4 100))) H12 := hP
  refine lv_aload hC.1 hC.2.1 dL_law_67 (lv_at hl 0 rfl) ?_
  refine lv_bipush (v := 6) hC.1 hC.2.1 dL_law_69 (by decide +kernel) ?_
  refine lv_iconst (v := 5) hC.1 hC.2.1 dL_law_71 (by decide +kernel) ?_
  refine iast_k hC (hK2.go hAN hS) hP (hDq (mkL (fun _ => 0) (fun _ => 0) (fun _ => 0) (fun _ => 0) (upd (upd (upd (upd (upd (fun _ => 0) 0 120) 1 40) 2 500) 3 8) 4 100))) hS 4 rfl (n := 21) (f := (upd (upd (upd (upd (upd (fun _ => 0) 0 120) 1 40) 2 500) 3 8) 4 100)) 6 (by decide +kernel) (by decide) (by decide) dL_law_72 (fun H13 locs13 hP hS => ?_)
  have hP : PW G (lwW G q (mkL (fun _ => 0) (fun _ => 0) (fun _ => 0) (fun _ => 0) (upd (upd (upd (upd (upd (upd (fun _ => 0) 0 120) 1 40) 2 500) 3 8) 4 100) 6 5))) H13 := hP
  have hP : PW G (lwW G q w0) H13 := hP
  have hPh : PW G (hdW G a b0 hv0) H13 := PW_keep hPh (fun z h1 h2 => hS.2.1 z h1 h2) (hd_na hq (fun z h k => Nat.not_le.mpr (hdA_lt hPh h) k) hv0)
  have hN : ∀ z, lwA q z → ¬ hdA a b0 z := fun z h k => absurd (hlN z h) (Nat.not_le.mpr (hdA_lt hPh0 k))
  have hS3 : va_S (fun z : Nat => s.heap.size ≤ z) s.heap H13 locs13 := ⟨Nat.le_trans hS2.1 hS.1, fun z g1 g2 => (hS.2.1 z (Nat.lt_of_lt_of_le g1 hS2.1) (fun k => g2 (Nat.le_trans hS2.1 k))).trans (hS2.2.1 z g1 g2), fun q hq => Nat.le_trans hS2.1 (hS.2.2 q hq)⟩
  have hKN := hK0.go hAL hS3
  obtain ⟨j1, j2, j3, j4⟩ := RLw_J RLw_new
  refine lv_aload_n hC.1 hC.2.1 dL_law_73 rfl (lv_at hl 5 rfl) ?_
  refine lv_aload_n hC.1 hC.2.1 dL_law_74 rfl (lv_at hl 4 rfl) ?_
  refine lv_aload_n hC.1 hC.2.1 dL_law_75 rfl (lv_at hl 3 rfl) ?_
  refine lv_aload hC.1 hC.2.1 dL_law_76 (lv_at hl 2 rfl) ?_
  refine lv_aload hC.1 hC.2.1 dL_law_78 (lv_at hl 0 rfl) ?_
  have hM := c_L_areDots l G a b0 hv0 q w0 j1
  rw [areDots_1 RLw_new (by omega)] at hM
  refine runP (rS (B := fun U H => PW G (hdW G a b0 hv0) H ∧ PW G (lwW G q w0) H) (As := [.ref (a 0), .ref (q 0), .ref (q 1), .ref (q 2), .ref (q 4)]) (rest := []) hC mwL_areDots hM wd_223 wd_222 ⟨rfl, rfl⟩ ⟨Nat.le_of_ble_eq_true rfl, Nat.le_of_ble_eq_true rfl⟩ (stb_and (stb_h (fun H => PW G (hdW G a b0 hv0) H)) (stb_h (fun H => PW G (lwW G q w0) H))) hKN ⟨hPh, hP⟩ rfl hl.1 rfl (Nat.le_of_ble_eq_true rfl) dL_law_80 ⟨Nat.le_of_ble_eq_true rfl, Nat.le_of_ble_eq_true rfl⟩) ?_
  refine lv_if_eq (tgt := 101) (x := 1) hC.1 hC.2.1 dL_law_83 (by decide) (fun h => absurd h (by decide)) (fun _ => ?_)
  refine lv_aload_n hC.1 hC.2.1 dL_law_86 rfl (lv_at hl 5 rfl) ?_
  refine lv_aload hC.1 hC.2.1 dL_law_87 (lv_at hl 1 rfl) ?_
  refine lv_aload hC.1 hC.2.1 dL_law_89 (lv_at hl 0 rfl) ?_
  have hM := c_L_isStrip l G a b0 hv0 q w0 j3 j4
  rw [isStrip_1 RLw_new] at hM
  refine runP (rS (B := fun U H => PW G (hdW G a b0 hv0) H ∧ PW G (lwW G q w0) H) (As := [.ref (a 0), .ref (q 3), .ref (q 4)]) (rest := []) hC mwL_isStrip hM wd_397 wd_396 ⟨rfl, rfl⟩ ⟨Nat.le_of_ble_eq_true rfl, Nat.le_of_ble_eq_true rfl⟩ (stb_and (stb_h (fun H => PW G (hdW G a b0 hv0) H)) (stb_h (fun H => PW G (lwW G q w0) H))) hKN ⟨hPh, hP⟩ rfl hl.1 rfl (Nat.le_of_ble_eq_true rfl) dL_law_91 ⟨Nat.le_of_ble_eq_true rfl, Nat.le_of_ble_eq_true rfl⟩) ?_
  refine lv_if_eq (tgt := 101) (x := 1) hC.1 hC.2.1 dL_law_94 (by decide) (fun h => absurd h (by decide)) (fun _ => ?_)
  refine lv_iconst (v := 1) hC.1 hC.2.1 dL_law_97 (by decide) ?_
  refine lv_goto (tgt := 102) hC.1 hC.2.1 dL_law_98 (by decide) ?_
  refine lv_istore (lv' := [(7, .int 1), (6, .ref (q 4)), (5, .ref (q 3)), (4, .ref (q 2)), (3, .ref (q 1)), (2, .ref (q 0)), (1, .ref (a 0)), (0, .ref b)]) hC.1 hC.2.1 dL_law_102 hl (by decide) rfl (fun ls hl => ?_)
  refine lv_iconst (v := nI 0) hC.1 hC.2.1 dL_law_104 (by decide) ?_
  refine lv_istore (lv' := [(8, .int (nI 0)), (7, .int 1), (6, .ref (q 4)), (5, .ref (q 3)), (4, .ref (q 2)), (3, .ref (q 1)), (2, .ref (q 0)), (1, .ref (a 0)), (0, .ref b)]) hC.1 hC.2.1 dL_law_105 hl (by decide) rfl (fun ls hl => ?_)
  exact lw_loop hC hK0 hgl hX hbl 30 0 rfl a b0 q hv0 w0 H13 locs13 _ _ ls RLw_new hq hql hN (fun z h => Nat.le_trans hS2.1 (hlN z h)) hAh (PW_app.mpr ⟨hP, hPh⟩) hS3 (Nat.le_of_ble_eq_true rfl) (Nat.le_of_ble_eq_true rfl) hl
