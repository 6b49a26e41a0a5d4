/-! the law's own walk -/
abbrev lawName (meth : Method) : MethodName := ⟨"HeadDotsLaw", meth.name, "([I)Z"⟩
def n0 : Nat → Int32 := upd (upd (upd (upd (upd (upd (fun _ => 0) 0 120) 1 40) 2 500) 3 8) 4 100) 6 5
def w0 : SV := mkL (fun _ => 0) (fun _ => 0) (fun _ => 0) (fun _ => 0) n0
theorem RLw_new : RLw 0 hv0 w0 := by
  refine ⟨?_, ⟨⟨⟨120, by omega, by omega, by decide +kernel⟩, ⟨40, by omega, by omega, by decide +kernel⟩, ⟨500, by omega, by omega, by decide +kernel⟩, ⟨8, by omega, by omega, by decide +kernel⟩, ⟨100, by omega, by omega, by decide +kernel⟩, ⟨0, by omega, by decide +kernel⟩, ⟨5, by omega, by decide +kernel⟩, ⟨0, by omega, by decide +kernel⟩⟩, ?_, ?_, ?_, ?_, ?_⟩, ?_⟩
  · unfold RelS
    decide +kernel
  · decide +kernel
  · decide +kernel
  · decide +kernel
  · decide +kernel
  · decide +kernel
  · unfold le_n
    decide +kernel
theorem RLw_J {B : Nat} {x : HV} {v : SV} (R : RLw B x v) : Lgs v ∧ JI (v, x) ∧ le_n (v 4 15) 12 ∧ ∀ j, j < 12 → le_n (v 3 (3 * j + 2)) 24 := by
  obtain ⟨-, ⟨g1, -, -, g4, g5, -⟩, h9⟩ := R
  have hL : Lgs v := g1
  refine ⟨hL, ⟨hL, h9⟩, ?_, fun j hj => ?_⟩
  · have e : rw v 87 = v 4 15 := rfl
    rw [← e, g4.1]
    exact le_n_nI g4.2 (by omega)
  · have g := g5 j hj
    rw [rw_k2] at g
    rw [g.1]
    exact le_n_nI g.2 (by omega)
theorem RD_X {b L : Nat} {xs : Nat → Int32} {s : State} {A : Nat → Prop} {H : Heap} {locs : List Loc} (hX : va_X b L xs s s.heap) (hbl : b < s.heap.size) (hbA : ¬ A b) (hS : va_S A s.heap H locs) : RD b L xs s H := by
  obtain ⟨scr, h1, h2, h3, h4, h5⟩ := hX
  exact ⟨scr, by rw [hS.2.1 b hbl hbA]; exact h1, h2, h3, Nat.le_of_eq h4.symm, by rw [h4], h5, fun z => z⟩
/-- after n turns the law comes to its end -/
abbrev LA (p : Program) (l : Launch) (e : Env) (s : State) (m : MethodId) (below : List Frame) (meth : Method) (c : Code) (G : GT) (b n : Nat) : Prop :=
  ∀ (a b0 q : Nat → Nat) (x : HV) (v : SV) (H : Heap) (locs : List Loc) (cells slots : Nat) (ls : Array Slot), RLw (5 * n) x v → hdD G a b0 → lwD G q → (∀ z, lwA q z → ¬ hdA a b0 z) → (∀ z, lwA q z → s.heap.size ≤ z) → (∀ z, hdA a b0 z → s.heap.size ≤ z) → PW G (lwW G q v ++ hdW G a b0 x) H → va_S (fun z : Nat => s.heap.size ≤ z) s.heap H locs → cells ≤ 109 + 6 * n → slots ≤ 1655 + 153 * n → lv_has ls 10 [(8, .int (nI n)), (7, .int 1), (6, .ref (q 4)), (5, .ref (q 3)), (4, .ref (q 2)), (3, .ref (q 1)), (2, .ref (q 0)), (1, .ref (a 0)), (0, .ref b)] → W p l e room_1 s m #[Value.ref b] below meth c H locs cells slots (lw_Z below #[Value.ref b] s) (F0 m 107 ls [])
theorem dL_law_107 : decode code 107 = .ok (.iload 8, 2) := by decide +kernel
theorem dL_law_109 : decode code 109 = .ok (.bipush 30, 2) := by decide +kernel
theorem dL_law_111 : decode code 111 = .ok (.if_icmp .ge 136, 3) := by decide +kernel
theorem dL_law_114 : decode code 114 = .ok (.iload 7, 2) := by decide +kernel
theorem dL_law_116 : decode code 116 = .ok (.ifCond .eq 131, 3) := by decide +kernel
theorem dL_law_119 : decode code 119 = .ok (.aload_n 0, 1) := by decide +kernel
theorem dL_law_120 : decode code 120 = .ok (.iload 8, 2) := by decide +kernel
theorem dL_law_122 : decode code 122 = .ok (.invokestatic 113, 3) := by decide +kernel
theorem dL_law_125 : decode code 125 = .ok (.istore 9, 2) := by decide +kernel
theorem dL_law_127 : decode code 127 = .ok (.aload_n 1, 1) := by decide +kernel
theorem dL_law_128 : decode code 128 = .ok (.aload_n 2, 1) := by decide +kernel
theorem dL_law_129 : decode code 129 = .ok (.aload_n 3, 1) := by decide +kernel
theorem dL_law_130 : decode code 130 = .ok (.aload 4, 2) := by decide +kernel
theorem dL_law_132 : decode code 132 = .ok (.aload 5, 2) := by decide +kernel
theorem dL_law_134 : decode code 134 = .ok (.aload 6, 2) := by decide +kernel
theorem dL_law_136 : decode code 136 = .ok (.iload 9, 2) := by decide +kernel
theorem dL_law_138 : decode code 138 = .ok (.bipush 21, 2) := by decide +kernel
theorem dL_law_140 : decode code 140 = .ok (.ishr, 1) := by decide +kernel
theorem dL_law_141 : decode code 141 = .ok (.bipush 11, 2) := by decide +kernel
theorem dL_law_143 : decode code 143 = .ok (.invokestatic 78, 3) := by decide +kernel
theorem dL_law_146 : decode code 146 = .ok (.iload 9, 2) := by decide +kernel
theorem dL_law_148 : decode code 148 = .ok (.invokestatic 117, 3) := by decide +kernel
theorem dL_law_151 : decode code 151 = .ok (.ifCond .eq 87, 3) := by decide +kernel
theorem dL_law_154 : decode code 154 = .ok (.aload_n 1, 1) := by decide +kernel
theorem dL_law_155 : decode code 155 = .ok (.aload_n 2, 1) := by decide +kernel
theorem dL_law_156 : decode code 156 = .ok (.aload_n 3, 1) := by decide +kernel
theorem dL_law_157 : decode code 157 = .ok (.aload 4, 2) := by decide +kernel
theorem dL_law_159 : decode code 159 = .ok (.aload 6, 2) := by decide +kernel
theorem dL_law_161 : decode code 161 = .ok (.invokestatic 105, 3) := by decide +kernel
theorem dL_law_164 : decode code 164 = .ok (.ifCond .eq 74, 3) := by decide +kernel
theorem dL_law_167 : decode code 167 = .ok (.aload_n 1, 1) := by decide +kernel
theorem dL_law_168 : decode code 168 = .ok (.aload 5, 2) := by decide +kernel
theorem dL_law_170 : decode code 170 = .ok (.aload 6, 2) := by decide +kernel
theorem dL_law_172 : decode code 172 = .ok (.invokestatic 109, 3) := by decide +kernel
theorem dL_law_175 : decode code 175 = .ok (.ifCond .eq 63, 3) := by decide +kernel
theorem dL_law_178 : decode code 178 = .ok (.aload_n 1, 1) := by decide +kernel
theorem dL_law_179 : decode code 179 = .ok (.aload_n 2, 1) := by decide +kernel
theorem dL_law_180 : decode code 180 = .ok (.aload 6, 2) := by decide +kernel
theorem dL_law_182 : decode code 182 = .ok (.iload 9, 2) := by decide +kernel
theorem dL_law_184 : decode code 184 = .ok (.bipush 6, 2) := by decide +kernel
theorem dL_law_186 : decode code 186 = .ok (.ishr, 1) := by decide +kernel
theorem dL_law_187 : decode code 187 = .ok (.bipush 24, 2) := by decide +kernel
theorem dL_law_189 : decode code 189 = .ok (.invokestatic 78, 3) := by decide +kernel
theorem dL_law_192 : decode code 192 = .ok (.iload 9, 2) := by decide +kernel
theorem dL_law_194 : decode code 194 = .ok (.bipush 9, 2) := by decide +kernel
theorem dL_law_196 : decode code 196 = .ok (.ishr, 1) := by decide +kernel
theorem dL_law_197 : decode code 197 = .ok (.sipush 901, 3) := by decide +kernel
theorem dL_law_200 : decode code 200 = .ok (.invokestatic 78, 3) := by decide +kernel
theorem dL_law_203 : decode code 203 = .ok (.invokestatic 121, 3) := by decide +kernel
theorem dL_law_206 : decode code 206 = .ok (.ifCond .eq 32, 3) := by decide +kernel
theorem dL_law_209 : decode code 209 = .ok (.iload 8, 2) := by decide +kernel
theorem dL_law_211 : decode code 211 = .ok (.iconst 3, 1) := by decide +kernel
theorem dL_law_212 : decode code 212 = .ok (.irem, 1) := by decide +kernel
theorem dL_law_213 : decode code 213 = .ok (.iconst 2, 1) := by decide +kernel
theorem dL_law_214 : decode code 214 = .ok (.if_icmp .ne 20, 3) := by decide +kernel
theorem dL_law_217 : decode code 217 = .ok (.aload_n 1, 1) := by decide +kernel
theorem dL_law_218 : decode code 218 = .ok (.aload_n 2, 1) := by decide +kernel
theorem dL_law_219 : decode code 219 = .ok (.aload 6, 2) := by decide +kernel
theorem dL_law_221 : decode code 221 = .ok (.iload 9, 2) := by decide +kernel
theorem dL_law_223 : decode code 223 = .ok (.iconst 2, 1) := by decide +kernel
theorem dL_law_224 : decode code 224 = .ok (.ishr, 1) := by decide +kernel
theorem dL_law_225 : decode code 225 = .ok (.invokestatic 95, 3) := by decide +kernel
theorem dL_law_228 : decode code 228 = .ok (.invokestatic 125, 3) := by decide +kernel
theorem dL_law_231 : decode code 231 = .ok (.ifCond .eq 7, 3) := by decide +kernel
theorem dL_law_234 : decode code 234 = .ok (.iconst 1, 1) := by decide +kernel
theorem dL_law_235 : decode code 235 = .ok (.goto 4, 3) := by decide +kernel
theorem dL_law_239 : decode code 239 = .ok (.istore 7, 2) := by decide +kernel
theorem dL_law_241 : decode code 241 = .ok (.iinc 8 1, 3) := by decide +kernel
theorem dL_law_244 : decode code 244 = .ok (.goto (-137), 3) := by decide +kernel
theorem dL_law_247 : decode code 247 = .ok (.iload 7, 2) := by decide +kernel
theorem dL_law_249 : decode code 249 = .ok (.ireturn, 1) := by decide +kernel
set_option maxHeartbeats 1000000 in
set_option maxRecDepth 100000 in
theorem lw_end {p : Program} {l : Launch} {e : Env} {s : State} {m : MethodId} {below : List Frame} {meth : Method} {c : Code} {G : GT} {b L : Nat} {xs : Nat → Int32} (hC : CX p s m meth c (lawName meth) code 10 ret #[Value.ref b]) (hK0 : KN G s s.heap) (hgl : gL G = s.heap.size) (hX : va_X b L xs s s.heap) (hbl : b < s.heap.size) : LA p l e s m below meth c G b 30 := by
  intro a b0 q x v H locs cells slots ls R hq hql hN h1 h2 hP hS hc hs9 hl
  have hbA : ¬ (fun z : Nat => s.heap.size ≤ z) b := Nat.not_le.mpr hbl
  have hAL : ∀ z, s.heap.size ≤ z → gL G ≤ z := fun z h => by rw [hgl]; exact h
  have hKN := hK0.go hAL hS
  refine lv_iload hC.1 hC.2.1 dL_law_107 (lv_at hl 0 rfl) ?_
  refine lv_bipush (v := 30) hC.1 hC.2.1 dL_law_109 (by decide +kernel) ?_
  refine lv_icmp_ge (tgt := 247) hC.1 hC.2.1 dL_law_111 (by decide) (fun _ => ?_) (fun h => absurd (by decide +kernel) h)
  refine lv_iload hC.1 hC.2.1 dL_law_247 (lv_at hl 1 rfl) ?_
  refine va_forget (fun q hq => hS.2.2 q hq) ?_
  refine W.widen (k := 600172) (n := 7300668) (by omega) (by omega) ?_
  exact lw_ret (d0 := s.drawn) (Drawn.sameBut.refl s.drawn lw_cs) hC.1 hC.2.1 hC.2.2.1 hC.2.2.2.2.2.1 dL_law_249
set_option maxHeartbeats 4000000 in
set_option maxRecDepth 100000 in
theorem lw_turn {p : Program} {l : Launch} {e : Env} {s : State} {m : MethodId} {below : List Frame} {meth : Method} {c : Code} {G : GT} {b L : Nat} {xs : Nat → Int32} (hC : CX p s m meth c (lawName meth) code 10 ret #[Value.ref b]) (hK0 : KN G s s.heap) (hgl : gL G = s.heap.size) (hX : va_X b L xs s s.heap) (hbl : b < s.heap.size) {n : Nat} (hn : n < 30) (kk : LA p l e s m below meth c G b (n + 1)) : LA p l e s m below meth c G b n := by
  intro a b0 q x v H locs cells slots ls R hq hql hN h1 h2 hP hS hc hs9 hl
  have hbA : ¬ (fun z : Nat => s.heap.size ≤ z) b := Nat.not_le.mpr hbl
  have hAL : ∀ z, s.heap.size ≤ z → gL G ≤ z := fun z h => by rw [hgl]; exact h
  have hKN := hK0.go hAL hS
  refine lv_iload hC.1 hC.2.1 dL_law_107 (lv_at hl 0 rfl) ?_
  refine lv_bipush (v := 30) hC.1 hC.2.1 dL_law_109 (by decide +kernel) ?_
  refine lv_icmp_ge (tgt := 247) hC.1 hC.2.1 dL_law_111 (by decide) (fun h => absurd h ((nI_ge (a := n) (b := 30) hn (by omega) : ¬ (30 : Int32) ≤ nI n))) (fun _ => ?_)
  refine lv_iload hC.1 hC.2.1 dL_law_114 (lv_at hl 1 rfl) ?_
  refine lv_if_eq (tgt := 247) hC.1 hC.2.1 dL_law_116 (by decide) (fun h => absurd h (by decide)) (fun _ => ?_)
  refine lv_aload_n hC.1 hC.2.1 dL_law_119 rfl (lv_at hl 8 rfl) ?_
  refine lv_iload hC.1 hC.2.1 dL_law_120 (lv_at hl 0 rfl) ?_
  refine runP (rS (B := fun U H => RD b L xs U H) (As := [.ref b, .int (nI n)]) (rest := []) hC mwL_cell (c_L_cell l G b L xs (nI n) (nI_pos (by omega))) wd_215 wd_214 ⟨rfl, rfl⟩ ⟨Nat.le_of_ble_eq_true rfl, Nat.le_of_ble_eq_true rfl⟩ (stb_RD _ _ _) hKN (RD_X hX hbl hbA hS) rfl hl.1 rfl (Nat.le_of_ble_eq_true rfl) dL_law_122 ⟨(show _ ≤ 600172 by omega), (show _ ≤ 7300668 by omega)⟩) ?_
  obtain ⟨x9, ex⟩ : ∃ z, z = fL_cell L xs (nI n) := ⟨_, rfl⟩
  rw [← ex]
  refine lv_istore (lv' := [(9, .int x9), (8, .int (nI n)), (7, .int 1), (6, .ref (q 4)), (5, .ref (q 3)), (4, .ref (q 2)), (3, .ref (q 1)), (2, .ref (q 0)), (1, .ref (a 0)), (0, .ref b)]) hC.1 hC.2.1 dL_law_125 hl (by decide) rfl (fun ls hl => ?_)
  refine lv_aload_n hC.1 hC.2.1 dL_law_127 rfl (lv_at hl 8 rfl) ?_
  refine lv_aload_n hC.1 hC.2.1 dL_law_128 rfl (lv_at hl 7 rfl) ?_
  refine lv_aload_n hC.1 hC.2.1 dL_law_129 rfl (lv_at hl 6 rfl) ?_
  refine lv_aload hC.1 hC.2.1 dL_law_130 (lv_at hl 5 rfl) ?_
  refine lv_aload hC.1 hC.2.1 dL_law_132 (lv_at hl 4 rfl) ?_
  refine lv_aload hC.1 hC.2.1 dL_law_134 (lv_at hl 3 rfl) ?_
  refine lv_iload hC.1 hC.2.1 dL_law_136 (lv_at hl 0 rfl) ?_
  refine lv_bipush (v := 21) hC.1 hC.2.1 dL_law_138 (by decide +kernel) ?_
  refine lv_ishr hC.1 hC.2.1 dL_law_140 ?_
  refine lv_bipush (v := 11) hC.1 hC.2.1 dL_law_141 (by decide +kernel) ?_
  refine runP (rS (B := fun U H => True) (As := [.int (x9 >>> (21 &&& 31)), .int 11]) (rest := [.ref (q 4), .ref (q 3), .ref (q 2), .ref (q 1), .ref (q 0), .ref (a 0)]) hC mwL_low (c_L_low l G (x9 >>> (21 &&& 31)) 11 (by decide)) wd_219 wd_218 ⟨rfl, rfl⟩ ⟨Nat.le_of_ble_eq_true rfl, Nat.le_of_ble_eq_true rfl⟩ (fun _ _ _ _ h => h) hKN trivial rfl hl.1 rfl (Nat.le_of_ble_eq_true rfl) dL_law_143 ⟨(show _ ≤ 600172 by omega), (show _ ≤ 7300668 by omega)⟩) ?_
  obtain ⟨x7, e7⟩ : ∃ z, z = fL_low (x9 >>> (21 &&& 31)) 11 := ⟨_, rfl⟩
  rw [← e7]
  refine lv_iload hC.1 hC.2.1 dL_law_146 (lv_at hl 0 rfl) ?_
  have hM := c_L_acts l G a b0 x q v x7 x9 hql hq hN (RLw_J R).2.1
  have hR := acts_1 R (by omega) x7 x9
  obtain ⟨w, ew⟩ : ∃ w, w = fL_acts x v x7 x9 := ⟨_, rfl⟩
  rw [← ew] at hM hR
  obtain ⟨r1, R⟩ := hR
  rw [r1] at hM
  refine runE (rS (B := fun U H => PW G (lwW G q v ++ hdW G a b0 x) H) (As := [.ref (a 0), .ref (q 0), .ref (q 1), .ref (q 2), .ref (q 3), .ref (q 4), .int x7, .int x9]) (rest := []) hC mwL_acts hM wd_588 wd_587 ⟨rfl, rfl⟩ ⟨Nat.le_of_ble_eq_true rfl, Nat.le_of_ble_eq_true rfl⟩ (stb_h (fun H => PW G (lwW G q v ++ hdW G a b0 x) H)) hKN hP rfl hl.1 rfl (Nat.le_of_ble_eq_true rfl) dL_law_148 ⟨(show _ ≤ 600172 by omega), (show _ ≤ 7300668 by omega)⟩) hS (fun z h => h.elim (h1 z) (h2 z)) (fun z h => h.elim (h1 z) (h2 z)) (fun H locs hp _ hk hS => ?_)
  obtain ⟨b1, hR1, hP⟩ := hp
  replace hN : ∀ z, lwA q z → ¬ hdA a b1 z := fun z h k => hN z h (hR1.2 z k)
  replace h2 : ∀ z, hdA a b1 z → s.heap.size ≤ z := fun z h => h2 z (hR1.2 z h)
  replace hq : hdD G a b1 := hR1.1
  obtain ⟨⟨v1, y1⟩, w2⟩ := w
  replace R : RLw (5 * n + 5) y1 v1 := R
  replace hP : PW G (lwW G q v1 ++ hdW G a b1 y1) H := hP
  replace hKN := hK0.go hAL hS
  refine lv_if_eq (tgt := 238) (x := 1) hC.1 hC.2.1 dL_law_151 (by decide) (fun h => absurd h (by decide)) (fun _ => ?_)
  refine lv_aload_n hC.1 hC.2.1 dL_law_154 rfl (lv_at hl 8 rfl) ?_
  refine lv_aload_n hC.1 hC.2.1 dL_law_155 rfl (lv_at hl 7 rfl) ?_
  refine lv_aload_n hC.1 hC.2.1 dL_law_156 rfl (lv_at hl 6 rfl) ?_
  refine lv_aload hC.1 hC.2.1 dL_law_157 (lv_at hl 5 rfl) ?_
  refine lv_aload hC.1 hC.2.1 dL_law_159 (lv_at hl 3 rfl) ?_
  obtain ⟨j1, j2, j3, j4⟩ := RLw_J R
  have hM := c_L_areDots l G a b1 y1 q v1 j1
  rw [areDots_1 R (by omega)] at hM
  refine runP (rS (B := fun U H => PW G (hdW G a b1 y1) H ∧ PW G (lwW G q v1) H) (As := [.ref (a 0), .ref (q 0), .ref (q 1), .ref (q 2), .ref (q 4)]) (rest := []) hC mwL_areDots hM wd_223 wd_222 ⟨rfl, rfl⟩ ⟨Nat.le_of_ble_eq_true rfl, Nat.le_of_ble_eq_true rfl⟩ (stb_and (stb_h (fun H => PW G (hdW G a b1 y1) H)) (stb_h (fun H => PW G (lwW G q v1) H))) hKN ⟨(PW_app.mp hP).2, (PW_app.mp hP).1⟩ rfl hl.1 rfl (Nat.le_of_ble_eq_true rfl) dL_law_161 ⟨(show _ ≤ 600172 by omega), (show _ ≤ 7300668 by omega)⟩) ?_
  refine lv_if_eq (tgt := 238) (x := 1) hC.1 hC.2.1 dL_law_164 (by decide) (fun h => absurd h (by decide)) (fun _ => ?_)
  refine lv_aload_n hC.1 hC.2.1 dL_law_167 rfl (lv_at hl 8 rfl) ?_
  refine lv_aload hC.1 hC.2.1 dL_law_168 (lv_at hl 4 rfl) ?_
  refine lv_aload hC.1 hC.2.1 dL_law_170 (lv_at hl 3 rfl) ?_
  have hM := c_L_isStrip l G a b1 y1 q v1 j3 j4
  rw [isStrip_1 R] at hM
  refine runP (rS (B := fun U H => PW G (hdW G a b1 y1) H ∧ PW G (lwW G q v1) H) (As := [.ref (a 0), .ref (q 3), .ref (q 4)]) (rest := []) hC mwL_isStrip hM wd_397 wd_396 ⟨rfl, rfl⟩ ⟨Nat.le_of_ble_eq_true rfl, Nat.le_of_ble_eq_true rfl⟩ (stb_and (stb_h (fun H => PW G (hdW G a b1 y1) H)) (stb_h (fun H => PW G (lwW G q v1) H))) hKN ⟨(PW_app.mp hP).2, (PW_app.mp hP).1⟩ rfl hl.1 rfl (Nat.le_of_ble_eq_true rfl) dL_law_172 ⟨(show _ ≤ 600172 by omega), (show _ ≤ 7300668 by omega)⟩) ?_
  refine lv_if_eq (tgt := 238) (x := 1) hC.1 hC.2.1 dL_law_175 (by decide) (fun h => absurd h (by decide)) (fun _ => ?_)
  refine lv_aload_n hC.1 hC.2.1 dL_law_178 rfl (lv_at hl 8 rfl) ?_
  refine lv_aload_n hC.1 hC.2.1 dL_law_179 rfl (lv_at hl 7 rfl) ?_
  refine lv_aload hC.1 hC.2.1 dL_law_180 (lv_at hl 3 rfl) ?_
  refine lv_iload hC.1 hC.2.1 dL_law_182 (lv_at hl 0 rfl) ?_
  refine lv_bipush (v := 6) hC.1 hC.2.1 dL_law_184 (by decide +kernel) ?_
  refine lv_ishr hC.1 hC.2.1 dL_law_186 ?_
  refine lv_bipush (v := 24) hC.1 hC.2.1 dL_law_187 (by decide +kernel) ?_
  refine runP (rS (B := fun U H => True) (As := [.int (x9 >>> (6 &&& 31)), .int 24]) (rest := [.ref (q 4), .ref (q 0), .ref (a 0)]) hC mwL_low (c_L_low l G (x9 >>> (6 &&& 31)) 24 (by decide)) wd_219 wd_218 ⟨rfl, rfl⟩ ⟨Nat.le_of_ble_eq_true rfl, Nat.le_of_ble_eq_true rfl⟩ (fun _ _ _ _ h => h) hKN trivial rfl hl.1 rfl (Nat.le_of_ble_eq_true rfl) dL_law_189 ⟨(show _ ≤ 600172 by omega), (show _ ≤ 7300668 by omega)⟩) ?_
  obtain ⟨d, hd, ed⟩ := low_n (x9 >>> (6 &&& 31)) (n := 24) (by omega) (by omega)
  rw [show fL_low (x9 >>> (6 &&& 31)) 24 = nI d from ed]
  refine lv_iload hC.1 hC.2.1 dL_law_192 (lv_at hl 0 rfl) ?_
  refine lv_bipush (v := 9) hC.1 hC.2.1 dL_law_194 (by decide +kernel) ?_
  refine lv_ishr hC.1 hC.2.1 dL_law_196 ?_
  refine lv_sipush (v := 901) hC.1 hC.2.1 dL_law_197 (by decide +kernel) ?_
  refine runP (rS (B := fun U H => True) (As := [.int (x9 >>> (9 &&& 31)), .int 901]) (rest := [.int (nI d), .ref (q 4), .ref (q 0), .ref (a 0)]) hC mwL_low (c_L_low l G (x9 >>> (9 &&& 31)) 901 (by decide)) wd_219 wd_218 ⟨rfl, rfl⟩ ⟨Nat.le_of_ble_eq_true rfl, Nat.le_of_ble_eq_true rfl⟩ (fun _ _ _ _ h => h) hKN trivial rfl hl.1 rfl (Nat.le_of_ble_eq_true rfl) dL_law_200 ⟨(show _ ≤ 600172 by omega), (show _ ≤ 7300668 by omega)⟩) ?_
  obtain ⟨t, ht, et⟩ := low_n (x9 >>> (9 &&& 31)) (n := 901) (by omega) (by omega)
  rw [show fL_low (x9 >>> (9 &&& 31)) 901 = nI t from et]
  have hNL : gL G ≤ H.size := by rw [hgl]; exact hS.1
  have hdN : ∀ z, hdA a b1 z → ¬ wdN H.size z := fun z h => Nat.not_le.mpr (hdA_lt (PW_app.mp hP).2 h)
  have hlN : ∀ z, lwA q z → ¬ wdN H.size z := fun z h => Nat.not_le.mpr (lwA_lt (PW_app.mp hP).1 h)
  refine runE (rS (B := fun _ H1 => H1.size = H.size ∧ (PW G (hdW G a b1 y1) H1 ∧ PW G (lwW G q v1) H1)) (As := [.ref (a 0), .ref (q 0), .ref (q 4), .int (nI d), .int (nI t)]) (rest := []) hC mwL_wouldDot (c_L_wouldDot l G a b1 y1 q v1 d t H.size _ hNL hq R hd (by omega)) wd_559 wd_558 ⟨rfl, rfl⟩ ⟨Nat.le_of_ble_eq_true rfl, Nat.le_of_ble_eq_true rfl⟩ (stb_h (fun H1 => H1.size = H.size ∧ (PW G (hdW G a b1 y1) H1 ∧ PW G (lwW G q v1) H1))) hKN ⟨rfl, (PW_app.mp hP).2, (PW_app.mp hP).1⟩ rfl hl.1 rfl (Nat.le_of_ble_eq_true rfl) dL_law_203 ⟨(show _ ≤ 600172 by omega), (show _ ≤ 7300668 by omega)⟩) hS (fun z h => Nat.le_trans hS.1 h) (fun z h => Nat.le_trans hS.1 h) (fun H2 locs2 _ hz hk hS => ?_)
  replace hP : PW G (lwW G q v1 ++ hdW G a b1 y1) H2 := PW_app.mpr ⟨PW_keep (PW_app.mp hP).1 hk (lw_na hlN v1), PW_keep (PW_app.mp hP).2 hk (hd_na hq hdN y1)⟩
  replace hKN := hK0.go hAL hS
  refine lv_if_eq (tgt := 238) (x := 1) hC.1 hC.2.1 dL_law_206 (by decide) (fun h => absurd h (by decide)) (fun _ => ?_)
  have fin : ∀ (y2 : HV) (H3 : Heap) (locs3 : List Loc) (cells3 slots3 : Nat), RLw (5 * n + 5) y2 v1 → PW G (lwW G q v1 ++ hdW G a b1 y2) H3 → va_S (fun z : Nat => s.heap.size ≤ z) s.heap H3 locs3 → cells3 ≤ 109 + 6 * (n + 1) → slots3 ≤ 1655 + 153 * (n + 1) → W p l e room_1 s m #[Value.ref b] below meth c H3 locs3 cells3 slots3 (lw_Z below #[Value.ref b] s) (F0 m 234 ls []) := by
    intro y2 H3 locs3 cells3 slots3 R hP hS hc3 hs3
    refine lv_iconst (v := 1) hC.1 hC.2.1 dL_law_234 (by decide) ?_
    refine lv_goto (tgt := 239) hC.1 hC.2.1 dL_law_235 (by decide) ?_
    refine lv_istore (lv' := [(7, .int 1), (9, .int x9), (8, .int (nI n)), (6, .ref (q 4)), (5, .ref (q 3)), (4, .ref (q 2)), (3, .ref (q 1)), (2, .ref (q 0)), (1, .ref (a 0)), (0, .ref b)]) hC.1 hC.2.1 dL_law_239 hl (by decide) rfl (fun ls hl => ?_)
    refine lv_iinc (v := nI (n + 1)) (lv' := [(8, .int (nI (n + 1))), (7, .int 1), (9, .int x9), (6, .ref (q 4)), (5, .ref (q 3)), (4, .ref (q 2)), (3, .ref (q 1)), (2, .ref (q 0)), (1, .ref (a 0)), (0, .ref b)]) hC.1 hC.2.1 dL_law_241 hl (k := 2) rfl (nI_add n 1) (by decide) rfl (fun ls hl => ?_)
    refine lv_goto (tgt := 107) hC.1 hC.2.1 dL_law_244 (by decide) ?_
    exact kk a b1 q y2 v1 H3 locs3 cells3 slots3 ls R hq hql hN h1 h2 hP hS hc3 hs3 (lv_sub hl [0, 1, 3, 4, 5, 6, 7, 8, 9] rfl)
  refine lv_iload hC.1 hC.2.1 dL_law_209 (lv_at hl 1 rfl) ?_
  refine lv_iconst (v := 3) hC.1 hC.2.1 dL_law_211 (by decide) ?_
  refine lv_irem hC.1 hC.2.1 dL_law_212 (by decide) ?_
  refine lv_iconst (v := 2) hC.1 hC.2.1 dL_law_213 (by decide) ?_
  refine lv_icmp_ne (tgt := 234) hC.1 hC.2.1 dL_law_214 (by decide) (fun _ => fin y1 H2 locs2 _ _ R hP hS (by omega) (by omega)) (fun _ => ?_)
  refine lv_aload_n hC.1 hC.2.1 dL_law_217 rfl (lv_at hl 8 rfl) ?_
  refine lv_aload_n hC.1 hC.2.1 dL_law_218 rfl (lv_at hl 7 rfl) ?_
  refine lv_aload hC.1 hC.2.1 dL_law_219 (lv_at hl 3 rfl) ?_
  refine lv_iload hC.1 hC.2.1 dL_law_221 (lv_at hl 0 rfl) ?_
  refine lv_iconst (v := 2) hC.1 hC.2.1 dL_law_223 (by decide) ?_
  refine lv_ishr hC.1 hC.2.1 dL_law_224 ?_
  refine runP (rS (B := fun U H => True) (As := [.int (x9 >>> (2 &&& 31))]) (rest := [.ref (q 4), .ref (q 0), .ref (a 0)]) hC mwL_dots (c_L_dots l G (x9 >>> (2 &&& 31))) wd_584 wd_583 ⟨rfl, rfl⟩ ⟨Nat.le_of_ble_eq_true rfl, Nat.le_of_ble_eq_true rfl⟩ (fun _ _ _ _ h => h) hKN trivial rfl hl.1 rfl (Nat.le_of_ble_eq_true rfl) dL_law_225 ⟨(show _ ≤ 600172 by omega), (show _ ≤ 7300668 by omega)⟩) ?_
  obtain ⟨X, hXX, eX⟩ := dots_n (x9 >>> (2 &&& 31))
  rw [eX]
  have hNL : gL G ≤ H2.size := by rw [hgl]; exact hS.1
  have hlN : ∀ z, lwA q z → ¬ wdA a b1 H2.size z := fun z h k => k.elim (hN z h) (Nat.not_le.mpr (lwA_lt (PW_app.mp hP).1 h))
  have hM := c_L_would l G a b1 y1 q v1 X H2.size _ hNL hq R hXX (by omega) hN
  have hR := (would_1 (v2 := fun _ _ => 0) R hXX (by omega) (fun _ _ => rfl) (fun _ _ => rfl) (fun _ _ => rfl)).2
  obtain ⟨y2, ey⟩ : ∃ y, y = (fL_would y1 v1 (fun _ _ => 0) (nI X)).1.2 := ⟨_, rfl⟩
  rw [← ey] at hM hR
  refine runE (rS (B := fun _ H1 => H1.size = H2.size ∧ (PW G (hdW G a b1 y1) H1 ∧ PW G (lwW G q v1) H1)) (As := [.ref (a 0), .ref (q 0), .ref (q 4), .int (nI X)]) (rest := []) hC mwL_would hM wd_425 wd_424 ⟨rfl, rfl⟩ ⟨Nat.le_of_ble_eq_true rfl, Nat.le_of_ble_eq_true rfl⟩ (stb_h (fun H1 => H1.size = H2.size ∧ (PW G (hdW G a b1 y1) H1 ∧ PW G (lwW G q v1) H1))) hKN ⟨rfl, (PW_app.mp hP).2, (PW_app.mp hP).1⟩ rfl hl.1 rfl (Nat.le_of_ble_eq_true rfl) dL_law_228 ⟨(show _ ≤ 600172 by omega), (show _ ≤ 7300668 by omega)⟩) hS (fun z h => h.elim (h2 z) (fun h => Nat.le_trans hS.1 h)) (fun z h => h.elim (h2 z) (fun h => Nat.le_trans hS.1 h)) (fun H3 locs3 hp _ hk hS => ?_)
  refine lv_if_eq (tgt := 238) (x := 1) hC.1 hC.2.1 dL_law_231 (by decide) (fun h => absurd h (by decide)) (fun _ => ?_)
  exact fin y2 H3 locs3 _ _ hR (PW_app.mpr ⟨PW_keep (PW_app.mp hP).1 hk (lw_na hlN v1), hp⟩) hS (by omega) (by omega)
theorem lw_loop {p : Program} {l : Launch} {e : Env} {s : State} {m : MethodId} {below : List Frame} {meth : Method} {c : Code} {G : GT} {b L : Nat} {xs : Nat → Int32} (hC : CX p s m meth c (lawName meth) code 10 ret #[Value.ref b]) (hK0 : KN G s s.heap) (hgl : gL G = s.heap.size) (hX : va_X b L xs s s.heap) (hbl : b < s.heap.size) : ∀ (k n : Nat), n + k = 30 → LA p l e s m below meth c G b n := by
  intro k
  induction k with
  | zero =>
    intro n h
    rw [show n = 30 by omega]
    exact lw_end hC hK0 hgl hX hbl
  | succ k ih =>
    intro n h
    exact lw_turn hC hK0 hgl hX hbl (by omega) (ih (n + 1) (by omega))
