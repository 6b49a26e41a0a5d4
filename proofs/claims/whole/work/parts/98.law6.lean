/-- a comparison of a double with itself -/
theorem dcmp_m1 {D : UInt64} (h : ¬ FP.dcmp D D = some .eq) : FP.dcmp D D = none := by
  by_cases q : FP.Core.val64 D = .nan
  · exact (FP.Core.dcmp_none D D).mpr (Or.inl q)
  · exact absurd (FP.Core.dcmp_self q) h
theorem mh_nan (v : SV) : FP.fIsNaN (fX6_meanHeat v).2 = false := by
  show FP.fIsNaN (FP.fdiv (FP.i2f (fX6_sum _ 0)) 1103101952) = false
  refine FP.Core.fdiv_out ?_ ⟨_, _, _, v24⟩ ?_
  · show FP.Core.fIsNaN (FP.Core.i2f _) = false
    rw [FP.Core.i2f_l2f]
    exact FP.Core.l2f_notNaN _
  · rintro ⟨s, q, e⟩
    rw [v24] at e
    cases e
theorem mh_ok (v : SV) : vf_n64 (FP.f2d (fX6_meanHeat v).2) := n64_of ((FP.f2d_nan _).trans (mh_nan v))
theorem dL_law_1171 : decode code 1171 = .ok (.aload_n 1, 1) := by decide +kernel
theorem dL_law_1172 : decode code 1172 = .ok (.invokevirtual 144, 3) := by decide +kernel
theorem dL_law_1175 : decode code 1175 = .ok (.dstore 5, 2) := by decide +kernel
theorem dL_law_1177 : decode code 1177 = .ok (.aload_n 2, 1) := by decide +kernel
theorem dL_law_1178 : decode code 1178 = .ok (.invokevirtual 148, 3) := by decide +kernel
theorem dL_law_1181 : decode code 1181 = .ok (.dstore 7, 2) := by decide +kernel
theorem dL_law_1183 : decode code 1183 = .ok (.dload 5, 2) := by decide +kernel
theorem dL_law_1185 : decode code 1185 = .ok (.dload 7, 2) := by decide +kernel
theorem dL_law_1187 : decode code 1187 = .ok (.dcmp .l, 1) := by decide +kernel
theorem dL_law_1188 : decode code 1188 = .ok (.ifCond .eq 21, 3) := by decide +kernel
theorem dL_law_1191 : decode code 1191 = .ok (.dload 5, 2) := by decide +kernel
theorem dL_law_1193 : decode code 1193 = .ok (.dload 5, 2) := by decide +kernel
theorem dL_law_1195 : decode code 1195 = .ok (.dcmp .l, 1) := by decide +kernel
theorem dL_law_1196 : decode code 1196 = .ok (.ifCond .eq 11, 3) := by decide +kernel
theorem dL_law_1199 : decode code 1199 = .ok (.dload 7, 2) := by decide +kernel
theorem dL_law_1201 : decode code 1201 = .ok (.dload 7, 2) := by decide +kernel
theorem dL_law_1203 : decode code 1203 = .ok (.dcmp .l, 1) := by decide +kernel
theorem dL_law_1204 : decode code 1204 = .ok (.ifCond .ne 5, 3) := by decide +kernel
theorem dL_law_1209 : decode code 1209 = .ok (.goto 60, 3) := by decide +kernel
theorem dL_law_1212 : decode code 1212 = .ok (.aload_n 1, 1) := by decide +kernel
theorem dL_law_1213 : decode code 1213 = .ok (.invokevirtual 149, 3) := by decide +kernel
theorem dL_law_1216 : decode code 1216 = .ok (.f2d, 1) := by decide +kernel
theorem dL_law_1217 : decode code 1217 = .ok (.dstore 5, 2) := by decide +kernel
theorem dL_law_1219 : decode code 1219 = .ok (.aload_n 2, 1) := by decide +kernel
theorem dL_law_1220 : decode code 1220 = .ok (.invokevirtual 153, 3) := by decide +kernel
theorem dL_law_1223 : decode code 1223 = .ok (.f2d, 1) := by decide +kernel
theorem dL_law_1224 : decode code 1224 = .ok (.dstore 7, 2) := by decide +kernel
theorem dL_law_1226 : decode code 1226 = .ok (.dload 5, 2) := by decide +kernel
theorem dL_law_1228 : decode code 1228 = .ok (.dload 7, 2) := by decide +kernel
theorem dL_law_1230 : decode code 1230 = .ok (.dcmp .l, 1) := by decide +kernel
theorem dL_law_1231 : decode code 1231 = .ok (.ifCond .eq 21, 3) := by decide +kernel
theorem dL_law_1234 : decode code 1234 = .ok (.dload 5, 2) := by decide +kernel
theorem dL_law_1236 : decode code 1236 = .ok (.dload 5, 2) := by decide +kernel
theorem dL_law_1238 : decode code 1238 = .ok (.dcmp .l, 1) := by decide +kernel
theorem dL_law_1239 : decode code 1239 = .ok (.ifCond .eq 11, 3) := by decide +kernel
theorem dL_law_1242 : decode code 1242 = .ok (.dload 7, 2) := by decide +kernel
theorem dL_law_1244 : decode code 1244 = .ok (.dload 7, 2) := by decide +kernel
theorem dL_law_1246 : decode code 1246 = .ok (.dcmp .l, 1) := by decide +kernel
theorem dL_law_1247 : decode code 1247 = .ok (.ifCond .ne 5, 3) := by decide +kernel
theorem dL_law_1252 : decode code 1252 = .ok (.goto 17, 3) := by decide +kernel
set_option maxHeartbeats 1000000 in
set_option maxRecDepth 100000 in
theorem lw_c20 {p : Program} {l : Launch} {e : Env} {s : State} {m : MethodId} {below : List Frame} {meth : Method} {c : Code} {G : GT} {b L : Nat} {xs : Nat → Int32} (hC : CX p s m meth c (lawName meth) code 9 ret #[Value.ref b]) (hT : l.stackTraces = false) (hK0 : KN G s s.heap) (hgl : gL G = s.heap.size) (hX : va_X b L xs s s.heap) (hbl : b < s.heap.size) {n : Nat} {i4 : Int32} (hn : n < 512) (h1 : vp_in (i4 + 1) L) (h2 : vp_in (i4 + 2) L) (kk : LAt p l e s m below meth c G b 1269 (n + 1) i4) : LAt p l e s m below meth c G b 1171 n i4 := by
  intro a b0 q w x v hs y H locs cells slots ls hR hW hS hc hs9 hl
  have hbA : ¬ (fun z : Nat => s.heap.size ≤ z) b := Nat.not_le.mpr hbl
  have hAL : ∀ z, s.heap.size ≤ z → gL G ≤ z := fun z h => by rw [hgl]; exact h
  have hKN := hK0.go hAL hS
  have hpx := RelH_x hR
  have hpv := RelH_v hR
  obtain ⟨x1, ex1⟩ : ∃ z, z = xs (i4 + 1).toNatClampNeg := ⟨_, rfl⟩
  obtain ⟨x2, ex2⟩ : ∃ z, z = xs (i4 + 2).toNatClampNeg := ⟨_, rfl⟩
  refine lv_aload_n hC.1 hC.2.1 dL_law_1171 rfl (lv_at hl 3 rfl) ?_
  have hop := op_darkness hR hn
  refine runP (rV (B := fun U H => PW G (hdW G a b0 x) H) (As := []) (rest := []) hC mwX5_darkness (c_X5_darkness l G a b0 x) iwX5_darkness wd_378 ⟨rfl, rfl⟩ ⟨Nat.le_of_ble_eq_true rfl, Nat.le_of_ble_eq_true rfl⟩ (stb_h (fun H => PW G (hdW G a b0 x) H)) hKN hW.Ph (va_recv hKN.k hW.Ph (ci := 5) (q0 := 0) rfl rfl) rfl hl.1 rfl (Nat.le_of_ble_eq_true rfl) dL_law_1172 ⟨(show _ ≤ 601024 by omega), (show _ ≤ 7293034 by omega)⟩) ?_
  obtain ⟨o1, o2, o3⟩ := hop
  rw [o2]
  obtain ⟨u, eu⟩ : ∃ u, u = fX6_darkness v := ⟨_, rfl⟩
  obtain ⟨D, eD⟩ : ∃ D, D = (fX6_darkness v).2 := ⟨_, rfl⟩
  rw [← eD]
  refine lv_dstore (lv' := [(5, .double D), (4, .int i4), (3, .ref w), (2, .ref (q 0)), (1, .ref (a 0)), (0, .ref b)]) hC.1 hC.2.1 dL_law_1175 hl (by decide) rfl (fun ls hl => ?_)
  refine lv_aload_n hC.1 hC.2.1 dL_law_1177 rfl (lv_at hl 3 rfl) ?_
  refine runE (rV (B := fun U H => PW G (mdW G q v hs) H) (As := []) (rest := []) hC mwX6_darkness (c_X6_darkness l G q v hs hW.2.1) iwX6_darkness wd_1198 ⟨rfl, rfl⟩ ⟨Nat.le_of_ble_eq_true rfl, Nat.le_of_ble_eq_true rfl⟩ (stb_h (fun H => PW G (mdW G q v hs) H)) hKN hW.P2 (va_recv hKN.k hW.P2 (ci := 6) (q0 := 0) rfl rfl) rfl hl.1 rfl (Nat.le_of_ble_eq_true rfl) dL_law_1178 ⟨(show _ ≤ 601024 by omega), (show _ ≤ 7293034 by omega)⟩) hS hW.A2 hW.A2 (fun H2 locs2 hB hz hk hS => ?_)
  have hW := hW.right hB hk
  have hKN := hK0.go hAL hS
  rw [← eu] at eD o1 hW ⊢
  show W p l e room_1 s m #[Value.ref b] below meth c H2 locs2 (cells + 0) (slots + 0) (lw_Z below #[Value.ref b] s) (F0 m 1181 ls [.double u.2])
  rw [← eD]
  refine lv_dstore (x := D) (lv' := [(7, .double D), (5, .double D), (4, .int i4), (3, .ref w), (2, .ref (q 0)), (1, .ref (a 0)), (0, .ref b)]) hC.1 hC.2.1 dL_law_1181 hl (by decide) rfl (fun ls hl => ?_)
  have fin : W p l e room_1 s m #[Value.ref b] below meth c H2 locs2 (cells + 0) (slots + 0) (lw_Z below #[Value.ref b] s) (F0 m 1209 ls []) := by
    refine lv_goto (tgt := 1269) hC.1 hC.2.1 dL_law_1209 (by decide) ?_
    exact kk a b0 q w x u.1 hs y _ _ _ _ ls o1 hW hS (by omega) (by omega) (lv_sub hl [2, 3, 4, 5, 6] rfl)
  refine lv_dload hC.1 hC.2.1 dL_law_1183 (lv_at hl 1 rfl) ?_
  refine lv_dload hC.1 hC.2.1 dL_law_1185 (lv_at hl 0 rfl) ?_
  refine lv_dcmp hC.1 hC.2.1 dL_law_1187 ?_
  by_cases hd : FP.dcmp D D = some .eq
  · rw [hd]
    exact lv_if_eq (tgt := 1209) hC.1 hC.2.1 dL_law_1188 (by decide) (fun _ => fin) (fun h => absurd rfl h)
  · have hm := dcmp_m1 hd
    rw [hm]
    refine lv_if_eq (tgt := 1209) hC.1 hC.2.1 dL_law_1188 (by decide) (fun _ => fin) (fun _ => ?_)
    refine lv_dload hC.1 hC.2.1 dL_law_1191 (lv_at hl 1 rfl) ?_
    refine lv_dload hC.1 hC.2.1 dL_law_1193 (lv_at hl 1 rfl) ?_
    refine lv_dcmp hC.1 hC.2.1 dL_law_1195 ?_
    rw [hm]
    refine lv_if_eq (tgt := 1207) hC.1 hC.2.1 dL_law_1196 (by decide) (fun h => absurd h (by decide)) (fun _ => ?_)
    refine lv_dload hC.1 hC.2.1 dL_law_1199 (lv_at hl 0 rfl) ?_
    refine lv_dload hC.1 hC.2.1 dL_law_1201 (lv_at hl 0 rfl) ?_
    refine lv_dcmp hC.1 hC.2.1 dL_law_1203 ?_
    rw [hm]
    exact lv_if_ne (tgt := 1209) hC.1 hC.2.1 dL_law_1204 (by decide) (fun _ => fin) (fun h => absurd h (by decide))
set_option maxHeartbeats 1000000 in
set_option maxRecDepth 100000 in
theorem lw_c21 {p : Program} {l : Launch} {e : Env} {s : State} {m : MethodId} {below : List Frame} {meth : Method} {c : Code} {G : GT} {b L : Nat} {xs : Nat → Int32} (hC : CX p s m meth c (lawName meth) code 9 ret #[Value.ref b]) (hT : l.stackTraces = false) (hK0 : KN G s s.heap) (hgl : gL G = s.heap.size) (hX : va_X b L xs s s.heap) (hbl : b < s.heap.size) {n : Nat} {i4 : Int32} (hn : n < 512) (h1 : vp_in (i4 + 1) L) (h2 : vp_in (i4 + 2) L) (kk : LAt p l e s m below meth c G b 1269 (n + 1) i4) : LAt p l e s m below meth c G b 1212 n i4 := by
  intro a b0 q w x v hs y H locs cells slots ls hR hW hS hc hs9 hl
  have hbA : ¬ (fun z : Nat => s.heap.size ≤ z) b := Nat.not_le.mpr hbl
  have hAL : ∀ z, s.heap.size ≤ z → gL G ≤ z := fun z h => by rw [hgl]; exact h
  have hKN := hK0.go hAL hS
  have hpx := RelH_x hR
  have hpv := RelH_v hR
  obtain ⟨x1, ex1⟩ : ∃ z, z = xs (i4 + 1).toNatClampNeg := ⟨_, rfl⟩
  obtain ⟨x2, ex2⟩ : ∃ z, z = xs (i4 + 2).toNatClampNeg := ⟨_, rfl⟩
  refine lv_aload_n hC.1 hC.2.1 dL_law_1212 rfl (lv_at hl 3 rfl) ?_
  have hop := op_meanHeat hR
  refine runP (rV (B := fun U H => PW G (hdW G a b0 x) H) (As := []) (rest := []) hC mwX5_meanHeat (c_X5_meanHeat l G a b0 x) iwX5_meanHeat wd_386 ⟨rfl, rfl⟩ ⟨Nat.le_of_ble_eq_true rfl, Nat.le_of_ble_eq_true rfl⟩ (stb_h (fun H => PW G (hdW G a b0 x) H)) hKN hW.Ph (va_recv hKN.k hW.Ph (ci := 5) (q0 := 0) rfl rfl) rfl hl.1 rfl (Nat.le_of_ble_eq_true rfl) dL_law_1213 ⟨(show _ ≤ 601024 by omega), (show _ ≤ 7293034 by omega)⟩) ?_
  obtain ⟨o1, o2⟩ := hop
  rw [o2]
  obtain ⟨u, eu⟩ : ∃ u, u = fX6_meanHeat v := ⟨_, rfl⟩
  refine lv_f2d hC.1 hC.2.1 dL_law_1216 (mh_ok v) ?_
  obtain ⟨D, eD⟩ : ∃ D, D = (FP.f2d (fX6_meanHeat v).2) := ⟨_, rfl⟩
  rw [← eD]
  refine lv_dstore (lv' := [(5, .double D), (4, .int i4), (3, .ref w), (2, .ref (q 0)), (1, .ref (a 0)), (0, .ref b)]) hC.1 hC.2.1 dL_law_1217 hl (by decide) rfl (fun ls hl => ?_)
  refine lv_aload_n hC.1 hC.2.1 dL_law_1219 rfl (lv_at hl 3 rfl) ?_
  refine runE (rV (B := fun U H => PW G (mdW G q v hs) H) (As := []) (rest := []) hC mwX6_meanHeat (c_X6_meanHeat l G q v hs hW.2.1) iwX6_meanHeat wd_1206 ⟨rfl, rfl⟩ ⟨Nat.le_of_ble_eq_true rfl, Nat.le_of_ble_eq_true rfl⟩ (stb_h (fun H => PW G (mdW G q v hs) H)) hKN hW.P2 (va_recv hKN.k hW.P2 (ci := 6) (q0 := 0) rfl rfl) rfl hl.1 rfl (Nat.le_of_ble_eq_true rfl) dL_law_1220 ⟨(show _ ≤ 601024 by omega), (show _ ≤ 7293034 by omega)⟩) hS hW.A2 hW.A2 (fun H2 locs2 hB hz hk hS => ?_)
  have hW := hW.right hB hk
  have hKN := hK0.go hAL hS
  refine lv_f2d hC.1 hC.2.1 dL_law_1223 (mh_ok v) ?_
  rw [← eu] at eD o1 hW ⊢
  show W p l e room_1 s m #[Value.ref b] below meth c H2 locs2 (cells + 0) (slots + 0) (lw_Z below #[Value.ref b] s) (F0 m 1224 ls [.double (FP.f2d u.2)])
  rw [← eD]
  refine lv_dstore (x := D) (lv' := [(7, .double D), (5, .double D), (4, .int i4), (3, .ref w), (2, .ref (q 0)), (1, .ref (a 0)), (0, .ref b)]) hC.1 hC.2.1 dL_law_1224 hl (by decide) rfl (fun ls hl => ?_)
  have fin : W p l e room_1 s m #[Value.ref b] below meth c H2 locs2 (cells + 0) (slots + 0) (lw_Z below #[Value.ref b] s) (F0 m 1252 ls []) := by
    refine lv_goto (tgt := 1269) hC.1 hC.2.1 dL_law_1252 (by decide) ?_
    exact kk a b0 q w x u.1 hs y _ _ _ _ ls o1 hW hS (by omega) (by omega) (lv_sub hl [2, 3, 4, 5, 6] rfl)
  refine lv_dload hC.1 hC.2.1 dL_law_1226 (lv_at hl 1 rfl) ?_
  refine lv_dload hC.1 hC.2.1 dL_law_1228 (lv_at hl 0 rfl) ?_
  refine lv_dcmp hC.1 hC.2.1 dL_law_1230 ?_
  by_cases hd : FP.dcmp D D = some .eq
  · rw [hd]
    exact lv_if_eq (tgt := 1252) hC.1 hC.2.1 dL_law_1231 (by decide) (fun _ => fin) (fun h => absurd rfl h)
  · have hm := dcmp_m1 hd
    rw [hm]
    refine lv_if_eq (tgt := 1252) hC.1 hC.2.1 dL_law_1231 (by decide) (fun _ => fin) (fun _ => ?_)
    refine lv_dload hC.1 hC.2.1 dL_law_1234 (lv_at hl 1 rfl) ?_
    refine lv_dload hC.1 hC.2.1 dL_law_1236 (lv_at hl 1 rfl) ?_
    refine lv_dcmp hC.1 hC.2.1 dL_law_1238 ?_
    rw [hm]
    refine lv_if_eq (tgt := 1250) hC.1 hC.2.1 dL_law_1239 (by decide) (fun h => absurd h (by decide)) (fun _ => ?_)
    refine lv_dload hC.1 hC.2.1 dL_law_1242 (lv_at hl 0 rfl) ?_
    refine lv_dload hC.1 hC.2.1 dL_law_1244 (lv_at hl 0 rfl) ?_
    refine lv_dcmp hC.1 hC.2.1 dL_law_1246 ?_
    rw [hm]
    exact lv_if_ne (tgt := 1252) hC.1 hC.2.1 dL_law_1247 (by decide) (fun _ => fin) (fun h => absurd h (by decide))
