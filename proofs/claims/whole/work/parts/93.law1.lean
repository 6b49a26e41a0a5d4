theorem dL_law_144 : decode code 144 = .ok (.aload_n 1, 1) := by decide +kernel
theorem dL_law_145 : decode code 145 = .ok (.aload_n 0, 1) := by decide +kernel
theorem dL_law_146 : decode code 146 = .ok (.iload 4, 2) := by decide +kernel
theorem dL_law_148 : decode code 148 = .ok (.iconst 1, 1) := by decide +kernel
theorem dL_law_149 : decode code 149 = .ok (.iadd, 1) := by decide +kernel
theorem dL_law_150 : decode code 150 = .ok (.iaload, 1) := by decide +kernel
theorem dL_law_151 : decode code 151 = .ok (.aload_n 3, 1) := by decide +kernel
theorem dL_law_152 : decode code 152 = .ok (.invokestatic 73, 3) := by decide +kernel
theorem dL_law_155 : decode code 155 = .ok (.istore 5, 2) := by decide +kernel
theorem dL_law_157 : decode code 157 = .ok (.aload_n 2, 1) := by decide +kernel
theorem dL_law_158 : decode code 158 = .ok (.aload_n 0, 1) := by decide +kernel
theorem dL_law_159 : decode code 159 = .ok (.iload 4, 2) := by decide +kernel
theorem dL_law_161 : decode code 161 = .ok (.iconst 1, 1) := by decide +kernel
theorem dL_law_162 : decode code 162 = .ok (.iadd, 1) := by decide +kernel
theorem dL_law_163 : decode code 163 = .ok (.iaload, 1) := by decide +kernel
theorem dL_law_164 : decode code 164 = .ok (.invokevirtual 78, 3) := by decide +kernel
theorem dL_law_167 : decode code 167 = .ok (.istore 6, 2) := by decide +kernel
theorem dL_law_169 : decode code 169 = .ok (.aload_n 2, 1) := by decide +kernel
theorem dL_law_170 : decode code 170 = .ok (.invokevirtual 79, 3) := by decide +kernel
theorem dL_law_173 : decode code 173 = .ok (.iload 5, 2) := by decide +kernel
theorem dL_law_175 : decode code 175 = .ok (.if_icmp .eq 5, 3) := by decide +kernel
theorem dL_law_180 : decode code 180 = .ok (.iload 5, 2) := by decide +kernel
theorem dL_law_182 : decode code 182 = .ok (.ifCond .ne 15, 3) := by decide +kernel
theorem dL_law_185 : decode code 185 = .ok (.aload_n 3, 1) := by decide +kernel
theorem dL_law_186 : decode code 186 = .ok (.iconst 0, 1) := by decide +kernel
theorem dL_law_187 : decode code 187 = .ok (.laload, 1) := by decide +kernel
theorem dL_law_188 : decode code 188 = .ok (.iload 6, 2) := by decide +kernel
theorem dL_law_190 : decode code 190 = .ok (.i2l, 1) := by decide +kernel
theorem dL_law_191 : decode code 191 = .ok (.lcmp, 1) := by decide +kernel
theorem dL_law_192 : decode code 192 = .ok (.ifCond .eq 5, 3) := by decide +kernel
theorem dL_law_197 : decode code 197 = .ok (.goto 1072, 3) := by decide +kernel
theorem cw_line : Cond.codeWith yL_line cL_line 4 (some .int) [(0, 9, 12, 13)] ∈ bigW := bw3 119 rfl rfl
set_option maxHeartbeats 1000000 in
set_option maxRecDepth 100000 in
theorem lw_c0 {p : Program} {l : Launch} {e : Env} {s : State} {m : MethodId} {below : List Frame} {meth : Method} {c : Code} {G : GT} {b L : Nat} {xs : Nat → Int32} (hC : CX p s m meth c (lawName meth) code 9 ret #[Value.ref b]) (hT : l.stackTraces = false) (hK0 : KN G s s.heap) (hgl : gL G = s.heap.size) (hX : va_X b L xs s s.heap) (hbl : b < s.heap.size) {n : Nat} {i4 : Int32} (hn : n < 512) (h1 : vp_in (i4 + 1) L) (h2 : vp_in (i4 + 2) L) (kk : LAt p l e s m below meth c G b 1269 (n + 1) i4) : LAt p l e s m below meth c G b 144 n i4 := by
  intro a b0 q w x v hs y H locs cells slots ls hR hW hS hc hs9 hl
  have hbA : ¬ (fun z : Nat => s.heap.size ≤ z) b := Nat.not_le.mpr hbl
  have hAL : ∀ z, s.heap.size ≤ z → gL G ≤ z := fun z h => by rw [hgl]; exact h
  have hKN := hK0.go hAL hS
  have hpx := RelH_x hR
  have hpv := RelH_v hR
  obtain ⟨x1, ex1⟩ : ∃ z, z = xs (i4 + 1).toNatClampNeg := ⟨_, rfl⟩
  obtain ⟨x2, ex2⟩ : ∃ z, z = xs (i4 + 2).toNatClampNeg := ⟨_, rfl⟩
  refine lv_aload_n hC.1 hC.2.1 dL_law_144 rfl (lv_at hl 3 rfl) ?_
  refine lv_aload_n hC.1 hC.2.1 dL_law_145 rfl (lv_at hl 4 rfl) ?_
  refine lv_iload hC.1 hC.2.1 dL_law_146 (lv_at hl 0 rfl) ?_
  refine lv_iconst (v := 1) hC.1 hC.2.1 dL_law_148 (by decide) ?_
  refine lv_iadd hC.1 hC.2.1 dL_law_149 ?_
  refine va_sld hC.1 hC.2.1 hX hbl hbA hS h1 dL_law_150 ?_
  rw [← ex1]
  refine lv_aload_n hC.1 hC.2.1 dL_law_151 rfl (lv_at hl 1 rfl) ?_
  refine runEX (rSX (n := 3) (B := fun _ H => PW G (wlE G w y :: hdW G a b0 x) H) (As := [.ref (a 0), .int x1, .ref w]) (rest := []) hC cw_line wd_0 wd_598 wd_597 (by decide +kernel) (c_L_line l hT G a b0 x w y x1 hW.1 (by first | exact hpx.1 | exact hpx.2 | exact hpx) hW.2.2.1 hW.2.2.2.1) ⟨rfl, rfl⟩ ⟨Nat.le_of_ble_eq_true rfl, Nat.le_of_ble_eq_true rfl⟩ (stb_h (fun H => PW G (wlE G w y :: hdW G a b0 x) H)) hKN hW.P1 rfl hl.1 rfl (Nat.le_of_ble_eq_true rfl) dL_law_152 ⟨(show _ ≤ 601024 by omega), (show _ ≤ 7293034 by omega)⟩) hS hW.A1 hW.A1 (fun H1 locs1 hB hz hk hS => ?_)
  obtain ⟨b', hR1, hP1⟩ := hB
  have hW := hW.left hR1 hP1 hk
  have hKN := hK0.go hAL hS
  have hop := op_line hR hn x1
  obtain ⟨F, eF⟩ : ∃ F, F = (fX5_line x x1) := ⟨_, rfl⟩
  rw [← eF] at hop hW ⊢
  obtain ⟨r5, e5⟩ : ∃ z, z = codeL (fun _ => 1) F := ⟨_, rfl⟩
  show W p l e room_1 s m #[Value.ref b] below meth c H1 locs1 (cells + 1) (slots + 6) (lw_Z below #[Value.ref b] s) (F0 m 155 ls [.int (codeL (fun _ => 1) F)])
  rw [← e5]
  refine lv_istore (x := r5) (lv' := [(5, .int r5), (4, .int i4), (3, .ref w), (2, .ref (q 0)), (1, .ref (a 0)), (0, .ref b)]) hC.1 hC.2.1 dL_law_155 hl (by decide) rfl (fun ls hl => ?_)
  refine lv_aload_n hC.1 hC.2.1 dL_law_157 rfl (lv_at hl 3 rfl) ?_
  refine lv_aload_n hC.1 hC.2.1 dL_law_158 rfl (lv_at hl 5 rfl) ?_
  refine lv_iload hC.1 hC.2.1 dL_law_159 (lv_at hl 1 rfl) ?_
  refine lv_iconst (v := 1) hC.1 hC.2.1 dL_law_161 (by decide) ?_
  refine lv_iadd hC.1 hC.2.1 dL_law_162 ?_
  refine va_sld hC.1 hC.2.1 hX hbl hbA hS h1 dL_law_163 ?_
  rw [← ex1]
  refine runE (rV (B := fun U H => PW G (mdW G q v hs) H) (As := [.int x1]) (rest := []) hC mwX6_line (c_X6_line l G q v hs x1 hW.2.1 (by first | exact hpv.1 | exact hpv.1.1 | exact hpv.1.2 | exact hpv.2.1 | exact hpv.2.2 | exact hpv.2.2.2.1 | exact ⟨hpv.1.1, hpv.1.2, hpv.2.1⟩)) iwX6_line wd_966 ⟨rfl, rfl⟩ ⟨Nat.le_of_ble_eq_true rfl, Nat.le_of_ble_eq_true rfl⟩ (stb_h (fun H => PW G (mdW G q v hs) H)) hKN hW.P2 (va_recv hKN.k hW.P2 (ci := 6) (q0 := 0) rfl rfl) rfl hl.1 rfl (Nat.le_of_ble_eq_true rfl) dL_law_164 ⟨(show _ ≤ 601024 by omega), (show _ ≤ 7293034 by omega)⟩) hS hW.A2 hW.A2 (fun H2 locs2 hB hz hk hS => ?_)
  have hW := hW.right hB hk
  have hKN := hK0.go hAL hS
  obtain ⟨u, eu⟩ : ∃ u, u = (fX6_line v x1) := ⟨_, rfl⟩
  rw [← eu] at hop hW ⊢
  obtain ⟨o1, o2, o3⟩ := hop
  refine lv_istore (x := u.2) (lv' := [(6, .int u.2), (5, .int r5), (4, .int i4), (3, .ref w), (2, .ref (q 0)), (1, .ref (a 0)), (0, .ref b)]) hC.1 hC.2.1 dL_law_167 hl (by decide) rfl (fun ls hl => ?_)
  refine lv_aload_n hC.1 hC.2.1 dL_law_169 rfl (lv_at hl 4 rfl) ?_
  refine runP (rV (B := fun U H => PW G (mdW G q u.1 hs) H) (As := []) (rest := []) hC mwX6_thrown (c_X6_thrown l G q u.1 hs) iwX6_thrown wd_942 ⟨rfl, rfl⟩ ⟨Nat.le_of_ble_eq_true rfl, Nat.le_of_ble_eq_true rfl⟩ (stb_h (fun H => PW G (mdW G q u.1 hs) H)) hKN hW.P2 (va_recv hKN.k hW.P2 (ci := 6) (q0 := 0) rfl rfl) rfl hl.1 rfl (Nat.le_of_ble_eq_true rfl) dL_law_170 ⟨(show _ ≤ 601024 by omega), (show _ ≤ 7293034 by omega)⟩) ?_
  refine lv_iload hC.1 hC.2.1 dL_law_173 (lv_at hl 1 rfl) ?_
  refine lv_icmp_eq (tgt := 180) hC.1 hC.2.1 dL_law_175 (by decide) (fun _ => ?_) (fun h => absurd (o2.trans e5.symm) h)
  refine lv_iload hC.1 hC.2.1 dL_law_180 (lv_at hl 1 rfl) ?_
  have fin : W p l e room_1 s m #[Value.ref b] below meth c H2 locs2 (cells + 1 + 0) (slots + 6 + 0) (lw_Z below #[Value.ref b] s) (F0 m 197 ls []) := by
    refine lv_goto (tgt := 1269) hC.1 hC.2.1 dL_law_197 (by decide) ?_
    exact kk a b' q w (wldL F) u.1 hs (ansL F y) _ _ _ _ ls o1 hW hS (by omega) (by omega) (lv_sub hl [2, 3, 4, 5, 6] rfl)
  refine lv_if_ne (tgt := 197) hC.1 hC.2.1 dL_law_182 (by decide) (fun _ => fin) (fun h5 => ?_)
  refine lv_aload_n hC.1 hC.2.1 dL_law_185 rfl (lv_at hl 3 rfl) ?_
  refine lv_iconst (v := 0) hC.1 hC.2.1 dL_law_186 (by decide) ?_
  refine va_lald hC.1 hC.2.1 hKN.k hW.P1 0 1 rfl rfl (show vp_in (nI 0) 1 from vp_in_nI (by decide) (by decide)) dL_law_187 ?_
  refine lv_iload hC.1 hC.2.1 dL_law_188 (lv_at hl 0 rfl) ?_
  refine lv_i2l (v := u.2.toInt64) hC.1 hC.2.1 dL_law_190 rfl ?_
  refine lv_lcmpE hC.1 hC.2.1 dL_law_191 (o3 (e5.symm.trans h5) y) ?_
  exact lv_if_eq (tgt := 197) hC.1 hC.2.1 dL_law_192 (by decide) (fun _ => fin) (fun h => absurd rfl h)
