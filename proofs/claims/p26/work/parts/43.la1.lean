def fL_cell (n1 : Nat) (f1 : Nat → Int32) (x2 : Int32) : Int32 := if (nI n1) ≤ x2 then (1799596469 * (x2 + 1)) else (f1 x2.toNatClampNeg)
def fL_low (x1 : Int32) (x2 : Int32) : Int32 := (x1 &&& 2147483647) - (x1 &&& 2147483647) / x2 * x2
def fL_less (x1 : Int32) (x2 : Int32) : Int32 := if 0 ≤ ((x1 - 1) - (x1 / x2)) then ((x1 - 1) - (x1 / x2)) else (0)
def tL_passes_2 (v : SV) (x3 : Int32) (s : SV) : SV := let v_2 := s; v_2
def tL_passes_18 (v : SV) (x3 : Int32) (d2 : Nat) (s : SV) : SV := let v_18 := s; v_18
def bL_passes_18 (v : SV) (x3 : Int32) (d2 : Nat) (d18 : Nat) (s : SV) : SV := let v_18 := s; let w_5 : Int32 := fL_less ((v_18 0) d18) ((v_18 4) 1); mkL (upd (v_18 0) d18 w_5) (v_18 1) (v_18 2) (v_18 3) (v_18 4)
def bL_passes_2 (v : SV) (x3 : Int32) (d2 : Nat) (s : SV) : SV := let v_2 := s; let w_2 : Int32 := ((v_2 4) 8) + 1; tL_passes_18 v x3 d2 (lpF 24 0 (bL_passes_18 v x3 d2) (mkL (v_2 0) (v_2 1) (v_2 2) (v_2 3) (upd (v_2 4) 8 w_2)))
def fL_passes (v : SV) (x3 : Int32) : SV := tL_passes_2 v x3 (lpF x3.toNatClampNeg 0 (bL_passes_2 v x3) v)
def tL_pulse_J126 (v : SV) (x2 : Int32) (x3 : Int32) (x4 : Int32) (z0_126 : Int32) (z1_126 : Int32) : Int32 := if (z0_126 - z1_126) ≤ 20 then (20) else (z0_126 - z1_126)
def tL_pulse_J99 (v : SV) (x2 : Int32) (x3 : Int32) (x4 : Int32) (z0_99 : Int32) (z1_99 : Int32) : Int32 := if 23 ≤ x3 then (tL_pulse_J126 v x2 x3 x4 (z0_99 - z1_99) 0) else (if ((x2 >>> ((x3 + 1) &&& 31)) &&& 1) = 1 then (tL_pulse_J126 v x2 x3 x4 (z0_99 - z1_99) 5) else (tL_pulse_J126 v x2 x3 x4 (z0_99 - z1_99) 0))
def tL_pulse_J74 (v : SV) (x2 : Int32) (x3 : Int32) (x4 : Int32) (z0_74 : Int32) (z1_74 : Int32) : Int32 := if x3 ≤ 0 then (tL_pulse_J99 v x2 x3 x4 (z0_74 - z1_74) 0) else (if ((x2 >>> ((x3 - 1) &&& 31)) &&& 1) = 1 then (tL_pulse_J99 v x2 x3 x4 (z0_74 - z1_74) 5) else (tL_pulse_J99 v x2 x3 x4 (z0_74 - z1_74) 0))
def tL_pulse_J51 (v : SV) (x2 : Int32) (x3 : Int32) (x4 : Int32) (z0_51 : Int32) (z1_51 : Int32) : Int32 := if ((((v 4) 14) >>> (x3 &&& 31)) &&& 1) = 1 then (tL_pulse_J74 v x2 x3 x4 (z0_51 - z1_51) 10) else (tL_pulse_J74 v x2 x3 x4 (z0_51 - z1_51) 0)
def tL_pulse_J28 (v : SV) (x2 : Int32) (x3 : Int32) (x4 : Int32) (z0_28 : Int32) (z1_28 : Int32) : Int32 := if ((((v 4) 13) >>> (x3 &&& 31)) &&& 1) = 1 then (tL_pulse_J51 v x2 x3 x4 (z0_28 + z1_28) 20) else (tL_pulse_J51 v x2 x3 x4 (z0_28 + z1_28) 0)
def fL_pulse (v : SV) (x2 : Int32) (x3 : Int32) (x4 : Int32) : Int32 := if ((v 4) 7) = 1 then (tL_pulse_J28 v x2 x3 x4 x4 (-15)) else (if ((v 4) 7) = 2 then (tL_pulse_J28 v x2 x3 x4 x4 25) else (tL_pulse_J28 v x2 x3 x4 x4 0))
def fL_dark (v : SV) : Int32 := if ((v 4) 7) = 2 then (150) else (110 - (20 * ((v 4) 7)))
def tL_ones_4 (x1 : Int32) (s : Int32 × Int32) : Int32 := let y1_4 := s.1; let y2_4 := s.2; y1_4
def bL_ones_4 (x1 : Int32) (s : Int32 × Int32) : Bool × (Int32 × Int32) := let y1_4 := s.1; let y2_4 := s.2; if y2_4 = 0 then ((false, (y1_4, y2_4))) else ((true, (y1_4 + 1, y2_4 &&& (y2_4 - 1))))
def fL_ones (x1 : Int32) : Int32 := tL_ones_4 x1 (lpB (33 + 1) (bL_ones_4 x1) (0, x1))
def tL_copy_2 (n1 : Nat) (f1 : Nat → Int32) (n2 : Nat) (f2 : Nat → Int32) (s : (Nat → Int32)) : (Nat → Int32) := let f_2 := s; f_2
def bL_copy_2 (n1 : Nat) (f1 : Nat → Int32) (n2 : Nat) (f2 : Nat → Int32) (d2 : Nat) (s : (Nat → Int32)) : (Nat → Int32) := let f_2 := s; let w_2 : Int32 := f1 (nI d2).toNatClampNeg; upd f_2 d2 w_2
def fL_copy (n1 : Nat) (f1 : Nat → Int32) (n2 : Nat) (f2 : Nat → Int32) : (Nat → Int32) := tL_copy_2 n1 f1 n2 f2 (lpF n1 0 (bL_copy_2 n1 f1 n2 f2) f2)
def fL_dots (x1 : Int32) : Int32 := if (fL_low x1 3) = 0 then ((x1 >>> (3 &&& 31)) &&& 16777215) else (if (fL_low x1 3) = 1 then (((x1 >>> (4 &&& 31)) &&& (x1 >>> (7 &&& 31))) &&& 16777215) else ((x1 >>> (5 &&& 31)) &&& 255))
theorem cntN_low (X n : Nat) : cntN X (n + 1) = (X.testBit 0).toNat + cntN (X / 2) n := by
  induction n with
  | zero => show 0 + _ = _ + 0; rw [Nat.zero_add]; rfl
  | succ n ih =>
    show cntN X (n + 1) + (X.testBit (n + 1)).toNat = _ + (cntN (X / 2) n + ((X / 2).testBit n).toNat)
    rw [ih, Nat.testBit_succ, Nat.add_assoc]
theorem cnt_and (n : Nat) : ∀ X, 0 < X → X < 2 ^ n → cntN (X &&& (X - 1)) n + 1 = cntN X n := by
  induction n with
  | zero => intro X h1 h2; exact absurd h2 (by omega)
  | succ n ih =>
    intro X h1 h2
    rw [cntN_low, cntN_low, Nat.and_div_two, Nat.testBit_and]
    have h3 : X < 2 * 2 ^ n := by rw [Nat.pow_succ] at h2; omega
    by_cases q : X % 2 = 1
    · have e1 : X.testBit 0 = true := by rw [Nat.testBit_zero]; exact decide_eq_true q
      have e2 : (X - 1).testBit 0 = false := by rw [Nat.testBit_zero]; exact decide_eq_false (by omega)
      rw [e1, e2, show (X - 1) / 2 = X / 2 by omega, Nat.and_self]
      show 0 + _ + 1 = 1 + _
      omega
    · have e1 : X.testBit 0 = false := by rw [Nat.testBit_zero]; exact decide_eq_false q
      have h := ih (X / 2) (by omega) (by omega)
      rw [e1, Bool.false_and, show (X - 1) / 2 = X / 2 - 1 by omega]
      show 0 + _ + 1 = 0 + _
      omega
theorem cntN_le' (X n : Nat) : cntN X n ≤ n := by
  induction n with
  | zero => exact Nat.le_refl _
  | succ n ih =>
    have h : (X.testBit n).toNat ≤ 1 := Bool.toNat_le _
    show cntN X n + (X.testBit n).toNat ≤ n + 1
    omega
def tN (y : Int32) : Nat := y.toBitVec.toNat
theorem tN_lt (y : Int32) : tN y < 2 ^ 32 := y.toBitVec.isLt
theorem tN_0 {y : Int32} (h : ¬ y = 0) : 0 < tN y := Nat.pos_of_ne_zero (fun e => h (Int32.toBitVec_inj.mp (BitVec.eq_of_toNat_eq e)))
theorem tN_and {y : Int32} (h : ¬ y = 0) : tN (y &&& (y - 1)) = tN y &&& (tN y - 1) := by
  have h0 := tN_0 h
  have hl := tN_lt y
  unfold tN at *
  rw [Int32.toBitVec_and, Int32.toBitVec_sub, BitVec.toNat_and, BitVec.toNat_sub]
  congr 1
  show (2 ^ 32 - 1 + y.toBitVec.toNat) % 2 ^ 32 = _
  omega
theorem ones_step {y : Int32} (h : ¬ y = 0) : cntN (tN (y &&& (y - 1))) 32 + 1 = cntN (tN y) 32 := by
  rw [tN_and h]; exact cnt_and 32 _ (tN_0 h) (tN_lt y)
theorem T_ones_n (x1 : Int32) (n : Nat) : ∀ (a y : Int32), cntN (tN y) 32 < n → lpT n (bL_ones_4 x1) (a, y) := by
  induction n with
  | zero => intro a y h; exact absurd h (Nat.not_lt_zero _)
  | succ n ih =>
    intro a y h
    by_cases q : y = 0
    · exact lpT_no (t := (a, y)) (by unfold bL_ones_4; exact if_pos q)
    · have h2 := ones_step q
      exact lpT_yes (t := (a + 1, y &&& (y - 1))) (by unfold bL_ones_4; exact if_neg q) (ih _ _ (by omega))
theorem T_ones (x1 : Int32) (s : Int32 × Int32) : lpT (33 + 1) (bL_ones_4 x1) s := T_ones_n x1 _ s.1 s.2 (by have := cntN_le' (tN s.2) 32; omega)
theorem ones_l (x1 : Int32) (n : Nat) : ∀ (c : Nat) (y : Int32), cntN (tN y) 32 < n → (lpB n (bL_ones_4 x1) (nI c, y)).1 = nI (c + cntN (tN y) 32) := by
  induction n with
  | zero => intro a y h; exact absurd h (Nat.not_lt_zero _)
  | succ n ih =>
    intro c y h
    by_cases q : y = 0
    · have e : bL_ones_4 x1 (nI c, y) = (false, (nI c, y)) := by unfold bL_ones_4; exact if_pos q
      have e0 : cntN (tN y) 32 = 0 := by rw [q]; decide
      rw [lpB, e, e0]
      rfl
    · have h2 := ones_step q
      have e : bL_ones_4 x1 (nI c, y) = (true, (nI (c + 1), y &&& (y - 1))) := by
        unfold bL_ones_4
        refine (if_neg q).trans ?_
        show (true, (nI c + 1, y &&& (y - 1))) = _
        rw [nI_1]
      rw [lpB, e]
      show (lpB n (bL_ones_4 x1) (nI (c + 1), y &&& (y - 1))).1 = _
      rw [ih _ _ (by omega)]
      congr 1
      omega
theorem ones_t (y : Int32) : fL_ones y = nI (cntN (tN y) 32) := by
  unfold fL_ones tL_ones_4
  have h := ones_l y (33 + 1) 0 y (by have := cntN_le' (tN y) 32; omega)
  rw [Nat.zero_add, nI_0] at h
  exact h
theorem I_L_passes (v : SV) (x3 : Int32) (h : Lgs v) : Lgs (fL_passes v x3) := by
  unfold fL_passes tL_passes_2
  refine lpF_0 (fun _ s => Lgs s) _ v ?_ h
  intro d s _ hs
  unfold bL_passes_2 tL_passes_18
  refine lpF_0 (fun _ s => Lgs s) 24 _ ?_ (LS_upd hs (by decide))
  intro d2 t _ ht
  exact ht
theorem dL_cell_0 : decode cL_cell 0 = .ok (.iload_n 1, 1) := by decide +kernel
theorem dL_cell_1 : decode cL_cell 1 = .ok (.aload_n 0, 1) := by decide +kernel
theorem dL_cell_2 : decode cL_cell 2 = .ok (.arraylength, 1) := by decide +kernel
theorem dL_cell_3 : decode cL_cell 3 = .ok (.if_icmp .ge 9, 3) := by decide +kernel
theorem dL_cell_6 : decode cL_cell 6 = .ok (.aload_n 0, 1) := by decide +kernel
theorem dL_cell_7 : decode cL_cell 7 = .ok (.iload_n 1, 1) := by decide +kernel
theorem dL_cell_8 : decode cL_cell 8 = .ok (.iaload, 1) := by decide +kernel
theorem dL_cell_9 : decode cL_cell 9 = .ok (.goto 9, 3) := by decide +kernel
theorem dL_cell_12 : decode cL_cell 12 = .ok (.ldc 7, 2) := by decide +kernel
theorem dL_cell_14 : decode cL_cell 14 = .ok (.iload_n 1, 1) := by decide +kernel
theorem dL_cell_15 : decode cL_cell 15 = .ok (.iconst 1, 1) := by decide +kernel
theorem dL_cell_16 : decode cL_cell 16 = .ok (.iadd, 1) := by decide +kernel
theorem dL_cell_17 : decode cL_cell 17 = .ok (.imul, 1) := by decide +kernel
theorem dL_cell_18 : decode cL_cell 18 = .ok (.ireturn, 1) := by decide +kernel
set_option maxHeartbeats 1000000 in
set_option maxRecDepth 100000 in
theorem c_L_cell (l : Launch) (G : GT) (a1 : Nat) (n1 : Nat) (f1 : Nat → Int32) (x2 : Int32) (h0 : ¬ x2 < 0) : Met l yL_cell (Cond.code yL_cell cL_cell 2 (some .int) :: bigW) ({ frames := 0, cells := 0, slots := 0, locals := 0 }) (BP G [.ref a1, .int x2] (fun U H => RD a1 n1 f1 U H)) (QP (.int (fL_cell n1 f1 x2))) 0 0 (fun _ => False) := by
  refine met_of (by decide) (Nat.le_of_ble_eq_true rfl) ?_
  intro p e s m below meth c ls hC hKN hB0 hl
  have hR1 := hB0
  have hl : lv_has ls 2 [(0, .ref a1), (1, .int x2)] := hl
  have hg : fL_cell n1 f1 x2 = fL_cell n1 f1 x2 := rfl
  refine lv_iload_n hC.1 hC.2.1 dL_cell_0 rfl (lv_at hl 1 rfl) ?_
  refine lv_aload_n hC.1 hC.2.1 dL_cell_1 rfl (lv_at hl 0 rfl) ?_
  refine rd_len hC hR1 dL_cell_2 ?_
  refine lv_icmp_ge (tgt := 12) hC.1 hC.2.1 dL_cell_3 (by decide) (fun k3 => ?_) (fun k3 => ?_)
  · refine lv_ldc (v := 1799596469) hC.1 hC.2.1 hC.2.2.2.2.1 (hC.2.2.2.2.2.2.1 _ wd_217) dL_cell_12 ?_
    refine lv_iload_n hC.1 hC.2.1 dL_cell_14 rfl (lv_at hl 1 rfl) ?_
    refine lv_iconst (v := 1) hC.1 hC.2.1 dL_cell_15 (by decide) ?_
    refine lv_iadd hC.1 hC.2.1 dL_cell_16 ?_
    refine lv_imul hC.1 hC.2.1 dL_cell_17 ?_
    have e_1 : fL_cell n1 f1 x2 = 1799596469 * (x2 + 1) := by delta fL_cell; exact Eq.trans (if_pos k3) rfl
    have hg : fL_cell n1 f1 x2 = 1799596469 * (x2 + 1) := by have e2 := congrArg (fun z => z) e_1; exact hg.trans e2
    exact eP_i hC (congrArg Value.int hg) dL_cell_18
  · refine lv_aload_n hC.1 hC.2.1 dL_cell_6 rfl (lv_at hl 0 rfl) ?_
    refine lv_iload_n hC.1 hC.2.1 dL_cell_7 rfl (lv_at hl 1 rfl) ?_
    refine rd_ld hC hR1 (vp_path h0 k3) dL_cell_8 ?_
    refine lv_goto (tgt := 18) hC.1 hC.2.1 dL_cell_9 (by decide) ?_
    have e_2 : fL_cell n1 f1 x2 = f1 x2.toNatClampNeg := by delta fL_cell; exact Eq.trans (if_neg k3) rfl
    have hg : fL_cell n1 f1 x2 = f1 x2.toNatClampNeg := by have e2 := congrArg (fun z => z) e_2; exact hg.trans e2
    exact eP_i hC (congrArg Value.int hg) dL_cell_18

theorem dL_low_0 : decode cL_low 0 = .ok (.iload_n 0, 1) := by decide +kernel
theorem dL_low_1 : decode cL_low 1 = .ok (.ldc 8, 2) := by decide +kernel
theorem dL_low_3 : decode cL_low 3 = .ok (.iand, 1) := by decide +kernel
theorem dL_low_4 : decode cL_low 4 = .ok (.iload_n 1, 1) := by decide +kernel
theorem dL_low_5 : decode cL_low 5 = .ok (.irem, 1) := by decide +kernel
theorem dL_low_6 : decode cL_low 6 = .ok (.ireturn, 1) := by decide +kernel
set_option maxHeartbeats 1000000 in
set_option maxRecDepth 100000 in
theorem c_L_low (l : Launch) (G : GT) (x1 : Int32) (x2 : Int32) (hz : ¬ x2 = 0) : Met l yL_low (Cond.code yL_low cL_low 2 (some .int) :: bigW) ({ frames := 0, cells := 0, slots := 0, locals := 0 }) (BP G [.int x1, .int x2] (fun U H => True)) (QP (.int (fL_low x1 x2))) 0 0 (fun _ => False) := by
  refine met_of (by decide) (Nat.le_of_ble_eq_true rfl) ?_
  intro p e s m below meth c ls hC hKN hB0 hl
  have hl : lv_has ls 2 [(0, .int x1), (1, .int x2)] := hl
  have hg : fL_low x1 x2 = fL_low x1 x2 := rfl
  refine lv_iload_n hC.1 hC.2.1 dL_low_0 rfl (lv_at hl 0 rfl) ?_
  refine lv_ldc (v := 2147483647) hC.1 hC.2.1 hC.2.2.2.2.1 (hC.2.2.2.2.2.2.1 _ wd_221) dL_low_1 ?_
  refine lv_iand hC.1 hC.2.1 dL_low_3 ?_
  refine lv_iload_n hC.1 hC.2.1 dL_low_4 rfl (lv_at hl 1 rfl) ?_
  refine lv_irem hC.1 hC.2.1 dL_low_5 hz ?_
  have e_1 : fL_low x1 x2 = (x1 &&& 2147483647) - (x1 &&& 2147483647) / x2 * x2 := by delta fL_low; exact rfl
  have hg : fL_low x1 x2 = (x1 &&& 2147483647) - (x1 &&& 2147483647) / x2 * x2 := by have e2 := congrArg (fun z => z) e_1; exact hg.trans e2
  exact eP_i hC (congrArg Value.int hg) dL_low_6

theorem dL_less_0 : decode cL_less 0 = .ok (.iload_n 0, 1) := by decide +kernel
theorem dL_less_1 : decode cL_less 1 = .ok (.iconst 1, 1) := by decide +kernel
theorem dL_less_2 : decode cL_less 2 = .ok (.isub, 1) := by decide +kernel
theorem dL_less_3 : decode cL_less 3 = .ok (.iload_n 0, 1) := by decide +kernel
theorem dL_less_4 : decode cL_less 4 = .ok (.iload_n 1, 1) := by decide +kernel
theorem dL_less_5 : decode cL_less 5 = .ok (.idiv, 1) := by decide +kernel
theorem dL_less_6 : decode cL_less 6 = .ok (.isub, 1) := by decide +kernel
theorem dL_less_7 : decode cL_less 7 = .ok (.istore_n 2, 1) := by decide +kernel
theorem dL_less_8 : decode cL_less 8 = .ok (.iload_n 2, 1) := by decide +kernel
theorem dL_less_9 : decode cL_less 9 = .ok (.ifCond .ge 7, 3) := by decide +kernel
theorem dL_less_12 : decode cL_less 12 = .ok (.iconst 0, 1) := by decide +kernel
theorem dL_less_13 : decode cL_less 13 = .ok (.goto 4, 3) := by decide +kernel
theorem dL_less_16 : decode cL_less 16 = .ok (.iload_n 2, 1) := by decide +kernel
theorem dL_less_17 : decode cL_less 17 = .ok (.ireturn, 1) := by decide +kernel
set_option maxHeartbeats 1000000 in
set_option maxRecDepth 100000 in
theorem c_L_less (l : Launch) (G : GT) (x1 : Int32) (x2 : Int32) (hz : ¬ x2 = 0) : Met l yL_less (Cond.code yL_less cL_less 3 (some .int) :: bigW) ({ frames := 0, cells := 0, slots := 0, locals := 0 }) (BP G [.int x1, .int x2] (fun U H => True)) (QP (.int (fL_less x1 x2))) 0 0 (fun _ => False) := by
  refine met_of (by decide) (Nat.le_of_ble_eq_true rfl) ?_
  intro p e s m below meth c ls hC hKN hB0 hl
  have hl : lv_has ls 3 [(0, .int x1), (1, .int x2)] := hl
  have hg : fL_less x1 x2 = fL_less x1 x2 := rfl
  refine lv_iload_n hC.1 hC.2.1 dL_less_0 rfl (lv_at hl 0 rfl) ?_
  refine lv_iconst (v := 1) hC.1 hC.2.1 dL_less_1 (by decide) ?_
  refine lv_isub hC.1 hC.2.1 dL_less_2 ?_
  refine lv_iload_n hC.1 hC.2.1 dL_less_3 rfl (lv_at hl 0 rfl) ?_
  refine lv_iload_n hC.1 hC.2.1 dL_less_4 rfl (lv_at hl 1 rfl) ?_
  refine lv_idiv hC.1 hC.2.1 dL_less_5 hz ?_
  refine lv_isub hC.1 hC.2.1 dL_less_6 ?_
  refine lv_istore_n (lv' := [(2, .int ((x1 - 1) - (x1 / x2))), (0, .int x1), (1, .int x2)]) hC.1 hC.2.1 dL_less_7 rfl hl (by decide) rfl (fun ls hl => ?_)
  refine lv_iload_n hC.1 hC.2.1 dL_less_8 rfl (lv_at hl 0 rfl) ?_
  refine lv_if_ge (tgt := 16) hC.1 hC.2.1 dL_less_9 (by decide) (fun k9 => ?_) (fun k9 => ?_)
  · refine lv_iload_n hC.1 hC.2.1 dL_less_16 rfl (lv_at hl 0 rfl) ?_
    have e_1 : fL_less x1 x2 = (x1 - 1) - (x1 / x2) := by delta fL_less; exact Eq.trans (if_pos k9) rfl
    have hg : fL_less x1 x2 = (x1 - 1) - (x1 / x2) := by have e2 := congrArg (fun z => z) e_1; exact hg.trans e2
    exact eP_i hC (congrArg Value.int hg) dL_less_17
  · refine lv_iconst (v := 0) hC.1 hC.2.1 dL_less_12 (by decide) ?_
    refine lv_goto (tgt := 17) hC.1 hC.2.1 dL_less_13 (by decide) ?_
    have e_2 : fL_less x1 x2 = 0 := by delta fL_less; exact Eq.trans (if_neg k9) rfl
    have hg : fL_less x1 x2 = 0 := by have e2 := congrArg (fun z => z) e_2; exact hg.trans e2
    exact eP_i hC (congrArg Value.int hg) dL_less_17

theorem dL_passes_0 : decode cL_passes 0 = .ok (.iconst 0, 1) := by decide +kernel
theorem dL_passes_1 : decode cL_passes 1 = .ok (.istore_n 3, 1) := by decide +kernel
theorem dL_passes_2 : decode cL_passes 2 = .ok (.iload_n 3, 1) := by decide +kernel
theorem dL_passes_3 : decode cL_passes 3 = .ok (.iload_n 2, 1) := by decide +kernel
theorem dL_passes_4 : decode cL_passes 4 = .ok (.if_icmp .ge 47, 3) := by decide +kernel
theorem dL_passes_7 : decode cL_passes 7 = .ok (.aload_n 1, 1) := by decide +kernel
theorem dL_passes_8 : decode cL_passes 8 = .ok (.bipush 8, 2) := by decide +kernel
theorem dL_passes_10 : decode cL_passes 10 = .ok (.dup2, 1) := by decide +kernel
theorem dL_passes_11 : decode cL_passes 11 = .ok (.iaload, 1) := by decide +kernel
theorem dL_passes_12 : decode cL_passes 12 = .ok (.iconst 1, 1) := by decide +kernel
theorem dL_passes_13 : decode cL_passes 13 = .ok (.iadd, 1) := by decide +kernel
theorem dL_passes_14 : decode cL_passes 14 = .ok (.iastore, 1) := by decide +kernel
theorem dL_passes_15 : decode cL_passes 15 = .ok (.iconst 0, 1) := by decide +kernel
theorem dL_passes_16 : decode cL_passes 16 = .ok (.istore 4, 2) := by decide +kernel
theorem dL_passes_18 : decode cL_passes 18 = .ok (.iload 4, 2) := by decide +kernel
theorem dL_passes_20 : decode cL_passes 20 = .ok (.bipush 24, 2) := by decide +kernel
theorem dL_passes_22 : decode cL_passes 22 = .ok (.if_icmp .ge 23, 3) := by decide +kernel
theorem dL_passes_25 : decode cL_passes 25 = .ok (.aload_n 0, 1) := by decide +kernel
theorem dL_passes_26 : decode cL_passes 26 = .ok (.iload 4, 2) := by decide +kernel
theorem dL_passes_28 : decode cL_passes 28 = .ok (.aload_n 0, 1) := by decide +kernel
theorem dL_passes_29 : decode cL_passes 29 = .ok (.iload 4, 2) := by decide +kernel
theorem dL_passes_31 : decode cL_passes 31 = .ok (.iaload, 1) := by decide +kernel
theorem dL_passes_32 : decode cL_passes 32 = .ok (.aload_n 1, 1) := by decide +kernel
theorem dL_passes_33 : decode cL_passes 33 = .ok (.iconst 1, 1) := by decide +kernel
theorem dL_passes_34 : decode cL_passes 34 = .ok (.iaload, 1) := by decide +kernel
theorem dL_passes_35 : decode cL_passes 35 = .ok (.invokestatic 9, 3) := by decide +kernel
theorem dL_passes_38 : decode cL_passes 38 = .ok (.iastore, 1) := by decide +kernel
theorem dL_passes_39 : decode cL_passes 39 = .ok (.iinc 4 1, 3) := by decide +kernel
theorem dL_passes_42 : decode cL_passes 42 = .ok (.goto (-24), 3) := by decide +kernel
theorem dL_passes_45 : decode cL_passes 45 = .ok (.iinc 3 1, 3) := by decide +kernel
theorem dL_passes_48 : decode cL_passes 48 = .ok (.goto (-46), 3) := by decide +kernel
theorem dL_passes_51 : decode cL_passes 51 = .ok (.return_, 1) := by decide +kernel
set_option maxHeartbeats 1000000 in
set_option maxRecDepth 100000 in
theorem c_L_passes (l : Launch) (G : GT) (q : Nat → Nat) (v : SV) (x3 : Int32) (hq : lwD G q) (hI : Lgs v) : Met l yL_passes (Cond.code yL_passes cL_passes 5 none :: bigW) ({ frames := 1, cells := 0, slots := 0, locals := 22 }) (BP G [.ref (q 0), .ref (q 4), .int x3] (fun U H => PW G (lwW G q v) H)) (QE (none) (fun H => PW G (lwW G q (fL_passes v x3)) H) (lwA q)) 0 0 (lwA q) := by
  refine met_of (by decide) (Nat.le_of_ble_eq_true rfl) ?_
  intro p e s m below meth c ls hC hKN hB0 hl
  have hP := hB0
  have hl : lv_has ls 5 [(0, .ref (q 0)), (1, .ref (q 4)), (2, .int x3)] := hl
  have hS : va_S (lwA q) s.heap s.heap [] := va_S.rf
  have hAL : ∀ a, (lwA q) a → gL G ≤ a := lwD_low hq
  have hg : fL_passes v x3 = fL_passes v x3 := rfl
  refine lv_iconst (v := 0) hC.1 hC.2.1 dL_passes_0 (by decide) ?_
  refine lv_istore_n (lv' := [(3, .int 0), (0, .ref (q 0)), (1, .ref (q 4)), (2, .int x3)]) hC.1 hC.2.1 dL_passes_1 rfl hl (by decide) rfl (fun ls hl => ?_)
  have A2 : ∀ (v_2 : SV), fL_passes v x3 = (tL_passes_2 v x3 v_2) → Lgs v_2 → ∀ (H : Heap) (locs : List Loc), PW G (lwW G q v_2) H → va_S (lwA q) s.heap H locs → ∀ (ls : Array Slot), lv_has ls 5 [] → W p l e ({ frames := 1, cells := 0, slots := 0, locals := 22 }) s m ([.ref (q 0), .ref (q 4), .int x3] : List Value).toArray below meth c H locs 0 0 (MQ below (QE (none) (fun H => PW G (lwW G q (fL_passes v x3)) H) (lwA q)) ([.ref (q 0), .ref (q 4), .int x3] : List Value).toArray s 0 0 (lwA q)) (F0 m 51 ls []) := by
    intro  v_2 hg hI H locs hP hS ls hl
    have e_1 : tL_passes_2 v x3 v_2 = v_2 := by delta tL_passes_2; exact rfl
    have hg : fL_passes v x3 = v_2 := by have e2 := congrArg (fun z => z) e_1; exact hg.trans e2
    exact eE_v hC (by show PW G (lwW G q (fL_passes v x3)) H; rw [hg]; exact hP) hS dL_passes_51
  have L2 : ∀ (n2 d2 : Nat), ∀ (v_2 : SV), d2 + n2 = x3.toNatClampNeg → fL_passes v x3 = (tL_passes_2 v x3 (lpF n2 d2 (bL_passes_2 v x3) v_2)) → Lgs v_2 → ∀ (H : Heap) (locs : List Loc), PW G (lwW G q v_2) H → va_S (lwA q) s.heap H locs → ∀ (ls : Array Slot), lv_has ls 5 [(0, .ref (q 0)), (1, .ref (q 4)), (2, .int x3), (3, .int (nI d2))] → W p l e ({ frames := 1, cells := 0, slots := 0, locals := 22 }) s m ([.ref (q 0), .ref (q 4), .int x3] : List Value).toArray below meth c H locs 0 0 (MQ below (QE (none) (fun H => PW G (lwW G q (fL_passes v x3)) H) (lwA q)) ([.ref (q 0), .ref (q 4), .int x3] : List Value).toArray s 0 0 (lwA q)) (F0 m 2 ls []) := by
    intro n2
    induction n2 with
    | zero =>
      intro d2 v_2 hd hg hI H locs hP hS ls hl
      refine lv_iload_n hC.1 hC.2.1 dL_passes_2 rfl (lv_at hl 3 rfl) ?_
      refine lv_iload_n hC.1 hC.2.1 dL_passes_3 rfl (lv_at hl 2 rfl) ?_
      refine lv_icmp_ge (tgt := 51) hC.1 hC.2.1 dL_passes_4 (by decide) (fun k4 => ?_) (fun k4 => ?_)
      · exact A2  v_2 hg hI _ _ hP hS _ (lv_sub hl [] rfl)
      · exact absurd (cl_le (by omega) (by have := cl_lt x3; omega)) k4
    | succ n2 ih =>
      intro d2 v_2 hd hg hI H locs hP hS ls hl
      have hg : fL_passes v x3 = (tL_passes_2 v x3 (lpF n2 (d2 + 1) (bL_passes_2 v x3) (bL_passes_2 v x3 d2 v_2))) := hg
      refine lv_iload_n hC.1 hC.2.1 dL_passes_2 rfl (lv_at hl 3 rfl) ?_
      refine lv_iload_n hC.1 hC.2.1 dL_passes_3 rfl (lv_at hl 2 rfl) ?_
      refine lv_icmp_ge (tgt := 51) hC.1 hC.2.1 dL_passes_4 (by decide) (fun k4 => ?_) (fun k4 => ?_)
      · exact absurd k4 (cl_nle (by omega))
      · refine lv_aload_n hC.1 hC.2.1 dL_passes_7 rfl (lv_at hl 1 rfl) ?_
        refine lv_bipush (v := 8) hC.1 hC.2.1 dL_passes_8 (by decide +kernel) ?_
        refine lv_dup2_11 hC.1 hC.2.1 dL_passes_10 rfl rfl ?_
        refine iald_k hC (hKN.go hAL hS) hP 4 rfl (n := 21) (f := (v_2 4)) 8 (rfl) (by omega) (by first | decide | omega) dL_passes_11 ?_
        refine lv_iconst (v := 1) hC.1 hC.2.1 dL_passes_12 (by decide) ?_
        refine lv_iadd hC.1 hC.2.1 dL_passes_13 ?_
        refine lv_topi (fun w_2 ew_2 => ?_)
        refine iast_k hC (hKN.go hAL hS) hP (lwD_D hq v_2) hS 4 rfl (n := 21) (f := (v_2 4)) 8 (rfl) (by omega) (by first | decide | omega) dL_passes_14 (fun H locs hq_3 hS => ?_)
        have hP : PW G (lwW G q (mkL (v_2 0) (v_2 1) (v_2 2) (v_2 3) (upd (v_2 4) 8 w_2))) H := hq_3
        have hI : Lgs (mkL (v_2 0) (v_2 1) (v_2 2) (v_2 3) (upd (v_2 4) 8 w_2)) := (LSn_upd hI (by decide))
        refine lv_iconst (v := 0) hC.1 hC.2.1 dL_passes_15 (by decide) ?_
        refine lv_istore (lv' := [(4, .int 0), (0, .ref (q 0)), (1, .ref (q 4)), (2, .int x3), (3, .int (nI d2))]) hC.1 hC.2.1 dL_passes_16 hl (by decide) rfl (fun ls hl => ?_)
        have A18 : ∀ (v_18 : SV), fL_passes v x3 = (tL_passes_2 v x3 (lpF n2 (d2 + 1) (bL_passes_2 v x3) (tL_passes_18 v x3 d2 v_18))) → Lgs v_18 → ∀ (H : Heap) (locs : List Loc), PW G (lwW G q v_18) H → va_S (lwA q) s.heap H locs → ∀ (ls : Array Slot), lv_has ls 5 [(0, .ref (q 0)), (1, .ref (q 4)), (2, .int x3), (3, .int (nI d2))] → W p l e ({ frames := 1, cells := 0, slots := 0, locals := 22 }) s m ([.ref (q 0), .ref (q 4), .int x3] : List Value).toArray below meth c H locs 0 0 (MQ below (QE (none) (fun H => PW G (lwW G q (fL_passes v x3)) H) (lwA q)) ([.ref (q 0), .ref (q 4), .int x3] : List Value).toArray s 0 0 (lwA q)) (F0 m 45 ls []) := by
          intro  v_18 hg hI H locs hP hS ls hl
          refine lv_iinc (v := nI (d2 + 1)) (lv' := [(3, .int (nI (d2 + 1))), (0, .ref (q 0)), (1, .ref (q 4)), (2, .int x3)]) hC.1 hC.2.1 dL_passes_45 hl (k := 3) rfl (nI_1 _) (by decide) rfl (fun ls hl => ?_)
          refine lv_goto (tgt := 2) hC.1 hC.2.1 dL_passes_48 (by decide) ?_
          have e_4 : tL_passes_18 v x3 d2 v_18 = v_18 := by delta tL_passes_18; exact rfl
          have hg : fL_passes v x3 = (tL_passes_2 v x3 (lpF n2 (d2 + 1) (bL_passes_2 v x3) v_18)) := by have e2 := congrArg (fun z => (tL_passes_2 v x3 (lpF n2 (d2 + 1) (bL_passes_2 v x3) z))) e_4; exact hg.trans e2
          exact ih (d2 + 1) v_18 (by omega) hg hI _ _ hP hS _ (lv_sub hl [1, 2, 3, 0] rfl)
        have L18 : ∀ (n18 d18 : Nat), ∀ (v_18 : SV), d18 + n18 = 24 → fL_passes v x3 = (tL_passes_2 v x3 (lpF n2 (d2 + 1) (bL_passes_2 v x3) (tL_passes_18 v x3 d2 (lpF n18 d18 (bL_passes_18 v x3 d2) v_18)))) → Lgs v_18 → ∀ (H : Heap) (locs : List Loc), PW G (lwW G q v_18) H → va_S (lwA q) s.heap H locs → ∀ (ls : Array Slot), lv_has ls 5 [(0, .ref (q 0)), (1, .ref (q 4)), (2, .int x3), (3, .int (nI d2)), (4, .int (nI d18))] → W p l e ({ frames := 1, cells := 0, slots := 0, locals := 22 }) s m ([.ref (q 0), .ref (q 4), .int x3] : List Value).toArray below meth c H locs 0 0 (MQ below (QE (none) (fun H => PW G (lwW G q (fL_passes v x3)) H) (lwA q)) ([.ref (q 0), .ref (q 4), .int x3] : List Value).toArray s 0 0 (lwA q)) (F0 m 18 ls []) := by
          intro n18
          induction n18 with
          | zero =>
            intro d18 v_18 hd hg hI H locs hP hS ls hl
            refine lv_iload hC.1 hC.2.1 dL_passes_18 (lv_at hl 4 rfl) ?_
            refine lv_bipush (v := 24) hC.1 hC.2.1 dL_passes_20 (by decide +kernel) ?_
            refine lv_icmp_ge (tgt := 45) hC.1 hC.2.1 dL_passes_22 (by decide) (fun k22 => ?_) (fun k22 => ?_)
            · exact A18  v_18 hg hI _ _ hP hS _ (lv_sub hl [0, 1, 2, 3] rfl)
            · exact absurd (nI_le (a := 24) (b := d18) (by omega) (by omega)) k22
          | succ n18 ih =>
            intro d18 v_18 hd hg hI H locs hP hS ls hl
            have hg : fL_passes v x3 = (tL_passes_2 v x3 (lpF n2 (d2 + 1) (bL_passes_2 v x3) (tL_passes_18 v x3 d2 (lpF n18 (d18 + 1) (bL_passes_18 v x3 d2) (bL_passes_18 v x3 d2 d18 v_18))))) := hg
            refine lv_iload hC.1 hC.2.1 dL_passes_18 (lv_at hl 4 rfl) ?_
            refine lv_bipush (v := 24) hC.1 hC.2.1 dL_passes_20 (by decide +kernel) ?_
            refine lv_icmp_ge (tgt := 45) hC.1 hC.2.1 dL_passes_22 (by decide) (fun k22 => ?_) (fun k22 => ?_)
            · exact absurd k22 (nI_ge (a := d18) (b := 24) (by omega) (by omega))
            · refine lv_aload_n hC.1 hC.2.1 dL_passes_25 rfl (lv_at hl 0 rfl) ?_
              refine lv_iload hC.1 hC.2.1 dL_passes_26 (lv_at hl 4 rfl) ?_
              refine lv_aload_n hC.1 hC.2.1 dL_passes_28 rfl (lv_at hl 0 rfl) ?_
              refine lv_iload hC.1 hC.2.1 dL_passes_29 (lv_at hl 4 rfl) ?_
              refine iald_k hC (hKN.go hAL hS) hP 0 rfl (n := 24) (f := (v_18 0)) d18 (rfl) (by omega) (by first | decide | omega) dL_passes_31 ?_
              refine lv_aload_n hC.1 hC.2.1 dL_passes_32 rfl (lv_at hl 1 rfl) ?_
              refine lv_iconst (v := 1) hC.1 hC.2.1 dL_passes_33 (by decide) ?_
              refine iald_k hC (hKN.go hAL hS) hP 4 rfl (n := 21) (f := (v_18 4)) 1 (rfl) (by omega) (by first | decide | omega) dL_passes_34 ?_
              refine runP (rS (B := fun U H => True) (As := [.int ((v_18 0) d18), .int ((v_18 4) 1)]) (rest := [.int (nI d18), .ref (q 0)]) hC mwL_less (c_L_less l G ((v_18 0) d18) ((v_18 4) 1) (LS_1 hI)) wd_229 wd_228 ⟨rfl, rfl⟩ ⟨Nat.le_of_ble_eq_true rfl, Nat.le_of_ble_eq_true rfl⟩ (fun _ _ _ _ h => h) (hKN.go hAL hS) trivial rfl hl.1 rfl (Nat.le_of_ble_eq_true rfl) dL_passes_35 ⟨Nat.zero_le _, Nat.zero_le _⟩) ?_
              refine lv_topi (fun w_5 ew_5 => ?_)
              refine iast_k hC (hKN.go hAL hS) hP (lwD_D hq v_18) hS 0 rfl (n := 24) (f := (v_18 0)) d18 (rfl) (by omega) (by first | decide | omega) dL_passes_38 (fun H locs hq_6 hS => ?_)
              have hP : PW G (lwW G q (mkL (upd (v_18 0) d18 w_5) (v_18 1) (v_18 2) (v_18 3) (v_18 4))) H := hq_6
              have hI : Lgs (mkL (upd (v_18 0) d18 w_5) (v_18 1) (v_18 2) (v_18 3) (v_18 4)) := hI
              refine lv_iinc (v := nI (d18 + 1)) (lv' := [(4, .int (nI (d18 + 1))), (0, .ref (q 0)), (1, .ref (q 4)), (2, .int x3), (3, .int (nI d2))]) hC.1 hC.2.1 dL_passes_39 hl (k := 4) rfl (nI_1 _) (by decide) rfl (fun ls hl => ?_)
              refine lv_goto (tgt := 18) hC.1 hC.2.1 dL_passes_42 (by decide) ?_
              have e_7 : bL_passes_18 v x3 d2 d18 v_18 = mkL (upd (v_18 0) d18 w_5) (v_18 1) (v_18 2) (v_18 3) (v_18 4) := by have q_ := ew_5.symm; subst q_; delta bL_passes_18; exact rfl
              have hg : fL_passes v x3 = (tL_passes_2 v x3 (lpF n2 (d2 + 1) (bL_passes_2 v x3) (tL_passes_18 v x3 d2 (lpF n18 (d18 + 1) (bL_passes_18 v x3 d2) (mkL (upd (v_18 0) d18 w_5) (v_18 1) (v_18 2) (v_18 3) (v_18 4)))))) := by have e2 := congrArg (fun z => (tL_passes_2 v x3 (lpF n2 (d2 + 1) (bL_passes_2 v x3) (tL_passes_18 v x3 d2 (lpF n18 (d18 + 1) (bL_passes_18 v x3 d2) z))))) e_7; exact hg.trans e2
              exact ih (d18 + 1) (mkL (upd (v_18 0) d18 w_5) (v_18 1) (v_18 2) (v_18 3) (v_18 4)) (by omega) hg hI _ _ hP hS _ (lv_sub hl [1, 2, 3, 4, 0] rfl)
        have e_8 : bL_passes_2 v x3 d2 v_2 = tL_passes_18 v x3 d2 (lpF 24 0 (bL_passes_18 v x3 d2) (mkL (v_2 0) (v_2 1) (v_2 2) (v_2 3) (upd (v_2 4) 8 w_2))) := by have q_ := ew_2.symm; subst q_; delta bL_passes_2; exact rfl
        have hg : fL_passes v x3 = (tL_passes_2 v x3 (lpF n2 (d2 + 1) (bL_passes_2 v x3) (tL_passes_18 v x3 d2 (lpF 24 0 (bL_passes_18 v x3 d2) (mkL (v_2 0) (v_2 1) (v_2 2) (v_2 3) (upd (v_2 4) 8 w_2)))))) := by have e2 := congrArg (fun z => (tL_passes_2 v x3 (lpF n2 (d2 + 1) (bL_passes_2 v x3) z))) e_8; exact hg.trans e2
        exact L18  24 0 (mkL (v_2 0) (v_2 1) (v_2 2) (v_2 3) (upd (v_2 4) 8 w_2)) (by omega) hg hI _ _ hP hS _ (lv_sub hl [1, 2, 3, 4, 0] rfl)
  have e_9 : fL_passes v x3 = tL_passes_2 v x3 (lpF x3.toNatClampNeg 0 (bL_passes_2 v x3) v) := by delta fL_passes; exact rfl
  have hg : fL_passes v x3 = (tL_passes_2 v x3 (lpF x3.toNatClampNeg 0 (bL_passes_2 v x3) v)) := by have e2 := congrArg (fun z => z) e_9; exact hg.trans e2
  exact L2  x3.toNatClampNeg 0 v (by omega) hg hI _ _ hP hS _ (lv_sub hl [1, 2, 3, 0] rfl)

theorem dL_pulse_0 : decode cL_pulse 0 = .ok (.iload_n 3, 1) := by decide +kernel
theorem dL_pulse_1 : decode cL_pulse 1 = .ok (.aload_n 0, 1) := by decide +kernel
theorem dL_pulse_2 : decode cL_pulse 2 = .ok (.bipush 7, 2) := by decide +kernel
theorem dL_pulse_4 : decode cL_pulse 4 = .ok (.iaload, 1) := by decide +kernel
theorem dL_pulse_5 : decode cL_pulse 5 = .ok (.iconst 1, 1) := by decide +kernel
theorem dL_pulse_6 : decode cL_pulse 6 = .ok (.if_icmp .ne 8, 3) := by decide +kernel
theorem dL_pulse_9 : decode cL_pulse 9 = .ok (.bipush (-15), 2) := by decide +kernel
theorem dL_pulse_11 : decode cL_pulse 11 = .ok (.goto 17, 3) := by decide +kernel
theorem dL_pulse_14 : decode cL_pulse 14 = .ok (.aload_n 0, 1) := by decide +kernel
theorem dL_pulse_15 : decode cL_pulse 15 = .ok (.bipush 7, 2) := by decide +kernel
theorem dL_pulse_17 : decode cL_pulse 17 = .ok (.iaload, 1) := by decide +kernel
theorem dL_pulse_18 : decode cL_pulse 18 = .ok (.iconst 2, 1) := by decide +kernel
theorem dL_pulse_19 : decode cL_pulse 19 = .ok (.if_icmp .ne 8, 3) := by decide +kernel
theorem dL_pulse_22 : decode cL_pulse 22 = .ok (.bipush 25, 2) := by decide +kernel
theorem dL_pulse_24 : decode cL_pulse 24 = .ok (.goto 4, 3) := by decide +kernel
theorem dL_pulse_27 : decode cL_pulse 27 = .ok (.iconst 0, 1) := by decide +kernel
theorem dL_pulse_28 : decode cL_pulse 28 = .ok (.iadd, 1) := by decide +kernel
theorem dL_pulse_29 : decode cL_pulse 29 = .ok (.istore 4, 2) := by decide +kernel
theorem dL_pulse_31 : decode cL_pulse 31 = .ok (.iload 4, 2) := by decide +kernel
theorem dL_pulse_33 : decode cL_pulse 33 = .ok (.aload_n 0, 1) := by decide +kernel
theorem dL_pulse_34 : decode cL_pulse 34 = .ok (.bipush 13, 2) := by decide +kernel
theorem dL_pulse_36 : decode cL_pulse 36 = .ok (.iaload, 1) := by decide +kernel
theorem dL_pulse_37 : decode cL_pulse 37 = .ok (.iload_n 2, 1) := by decide +kernel
theorem dL_pulse_38 : decode cL_pulse 38 = .ok (.ishr, 1) := by decide +kernel
theorem dL_pulse_39 : decode cL_pulse 39 = .ok (.iconst 1, 1) := by decide +kernel
theorem dL_pulse_40 : decode cL_pulse 40 = .ok (.iand, 1) := by decide +kernel
theorem dL_pulse_41 : decode cL_pulse 41 = .ok (.iconst 1, 1) := by decide +kernel
theorem dL_pulse_42 : decode cL_pulse 42 = .ok (.if_icmp .ne 8, 3) := by decide +kernel
theorem dL_pulse_45 : decode cL_pulse 45 = .ok (.bipush 20, 2) := by decide +kernel
theorem dL_pulse_47 : decode cL_pulse 47 = .ok (.goto 4, 3) := by decide +kernel
theorem dL_pulse_50 : decode cL_pulse 50 = .ok (.iconst 0, 1) := by decide +kernel
theorem dL_pulse_51 : decode cL_pulse 51 = .ok (.isub, 1) := by decide +kernel
theorem dL_pulse_52 : decode cL_pulse 52 = .ok (.istore 4, 2) := by decide +kernel
theorem dL_pulse_54 : decode cL_pulse 54 = .ok (.iload 4, 2) := by decide +kernel
theorem dL_pulse_56 : decode cL_pulse 56 = .ok (.aload_n 0, 1) := by decide +kernel
theorem dL_pulse_57 : decode cL_pulse 57 = .ok (.bipush 14, 2) := by decide +kernel
theorem dL_pulse_59 : decode cL_pulse 59 = .ok (.iaload, 1) := by decide +kernel
theorem dL_pulse_60 : decode cL_pulse 60 = .ok (.iload_n 2, 1) := by decide +kernel
theorem dL_pulse_61 : decode cL_pulse 61 = .ok (.ishr, 1) := by decide +kernel
theorem dL_pulse_62 : decode cL_pulse 62 = .ok (.iconst 1, 1) := by decide +kernel
theorem dL_pulse_63 : decode cL_pulse 63 = .ok (.iand, 1) := by decide +kernel
theorem dL_pulse_64 : decode cL_pulse 64 = .ok (.iconst 1, 1) := by decide +kernel
theorem dL_pulse_65 : decode cL_pulse 65 = .ok (.if_icmp .ne 8, 3) := by decide +kernel
theorem dL_pulse_68 : decode cL_pulse 68 = .ok (.bipush 10, 2) := by decide +kernel
theorem dL_pulse_70 : decode cL_pulse 70 = .ok (.goto 4, 3) := by decide +kernel
theorem dL_pulse_73 : decode cL_pulse 73 = .ok (.iconst 0, 1) := by decide +kernel
theorem dL_pulse_74 : decode cL_pulse 74 = .ok (.isub, 1) := by decide +kernel
theorem dL_pulse_75 : decode cL_pulse 75 = .ok (.istore 4, 2) := by decide +kernel
theorem dL_pulse_77 : decode cL_pulse 77 = .ok (.iload 4, 2) := by decide +kernel
theorem dL_pulse_79 : decode cL_pulse 79 = .ok (.iload_n 2, 1) := by decide +kernel
theorem dL_pulse_80 : decode cL_pulse 80 = .ok (.ifCond .le 18, 3) := by decide +kernel
theorem dL_pulse_83 : decode cL_pulse 83 = .ok (.iload_n 1, 1) := by decide +kernel
theorem dL_pulse_84 : decode cL_pulse 84 = .ok (.iload_n 2, 1) := by decide +kernel
theorem dL_pulse_85 : decode cL_pulse 85 = .ok (.iconst 1, 1) := by decide +kernel
theorem dL_pulse_86 : decode cL_pulse 86 = .ok (.isub, 1) := by decide +kernel
theorem dL_pulse_87 : decode cL_pulse 87 = .ok (.ishr, 1) := by decide +kernel
theorem dL_pulse_88 : decode cL_pulse 88 = .ok (.iconst 1, 1) := by decide +kernel
theorem dL_pulse_89 : decode cL_pulse 89 = .ok (.iand, 1) := by decide +kernel
theorem dL_pulse_90 : decode cL_pulse 90 = .ok (.iconst 1, 1) := by decide +kernel
theorem dL_pulse_91 : decode cL_pulse 91 = .ok (.if_icmp .ne 7, 3) := by decide +kernel
theorem dL_pulse_94 : decode cL_pulse 94 = .ok (.iconst 5, 1) := by decide +kernel
theorem dL_pulse_95 : decode cL_pulse 95 = .ok (.goto 4, 3) := by decide +kernel
theorem dL_pulse_98 : decode cL_pulse 98 = .ok (.iconst 0, 1) := by decide +kernel
theorem dL_pulse_99 : decode cL_pulse 99 = .ok (.isub, 1) := by decide +kernel
theorem dL_pulse_100 : decode cL_pulse 100 = .ok (.istore 4, 2) := by decide +kernel
theorem dL_pulse_102 : decode cL_pulse 102 = .ok (.iload 4, 2) := by decide +kernel
theorem dL_pulse_104 : decode cL_pulse 104 = .ok (.iload_n 2, 1) := by decide +kernel
theorem dL_pulse_105 : decode cL_pulse 105 = .ok (.bipush 23, 2) := by decide +kernel
theorem dL_pulse_107 : decode cL_pulse 107 = .ok (.if_icmp .ge 18, 3) := by decide +kernel
theorem dL_pulse_110 : decode cL_pulse 110 = .ok (.iload_n 1, 1) := by decide +kernel
theorem dL_pulse_111 : decode cL_pulse 111 = .ok (.iload_n 2, 1) := by decide +kernel
theorem dL_pulse_112 : decode cL_pulse 112 = .ok (.iconst 1, 1) := by decide +kernel
theorem dL_pulse_113 : decode cL_pulse 113 = .ok (.iadd, 1) := by decide +kernel
theorem dL_pulse_114 : decode cL_pulse 114 = .ok (.ishr, 1) := by decide +kernel
theorem dL_pulse_115 : decode cL_pulse 115 = .ok (.iconst 1, 1) := by decide +kernel
theorem dL_pulse_116 : decode cL_pulse 116 = .ok (.iand, 1) := by decide +kernel
theorem dL_pulse_117 : decode cL_pulse 117 = .ok (.iconst 1, 1) := by decide +kernel
theorem dL_pulse_118 : decode cL_pulse 118 = .ok (.if_icmp .ne 7, 3) := by decide +kernel
theorem dL_pulse_121 : decode cL_pulse 121 = .ok (.iconst 5, 1) := by decide +kernel
theorem dL_pulse_122 : decode cL_pulse 122 = .ok (.goto 4, 3) := by decide +kernel
theorem dL_pulse_125 : decode cL_pulse 125 = .ok (.iconst 0, 1) := by decide +kernel
theorem dL_pulse_126 : decode cL_pulse 126 = .ok (.isub, 1) := by decide +kernel
theorem dL_pulse_127 : decode cL_pulse 127 = .ok (.istore 4, 2) := by decide +kernel
theorem dL_pulse_129 : decode cL_pulse 129 = .ok (.iload 4, 2) := by decide +kernel
theorem dL_pulse_131 : decode cL_pulse 131 = .ok (.bipush 20, 2) := by decide +kernel
theorem dL_pulse_133 : decode cL_pulse 133 = .ok (.if_icmp .le 8, 3) := by decide +kernel
theorem dL_pulse_136 : decode cL_pulse 136 = .ok (.iload 4, 2) := by decide +kernel
theorem dL_pulse_138 : decode cL_pulse 138 = .ok (.goto 5, 3) := by decide +kernel
theorem dL_pulse_141 : decode cL_pulse 141 = .ok (.bipush 20, 2) := by decide +kernel
theorem dL_pulse_143 : decode cL_pulse 143 = .ok (.ireturn, 1) := by decide +kernel
set_option maxHeartbeats 1000000 in
set_option maxRecDepth 100000 in
theorem c_L_pulse (l : Launch) (G : GT) (q : Nat → Nat) (v : SV) (x2 : Int32) (x3 : Int32) (x4 : Int32) : Met l yL_pulse (Cond.code yL_pulse cL_pulse 5 (some .int) :: bigW) ({ frames := 0, cells := 0, slots := 0, locals := 0 }) (BP G [.ref (q 4), .int x2, .int x3, .int x4] (fun U H => PW G (lwW G q v) H)) (QP (.int (fL_pulse v x2 x3 x4))) 0 0 (fun _ => False) := by
  refine met_of (by decide) (Nat.le_of_ble_eq_true rfl) ?_
  intro p e s m below meth c ls hC hKN hB0 hl
  have hP := hB0
  have hl : lv_has ls 5 [(0, .ref (q 4)), (1, .int x2), (2, .int x3), (3, .int x4)] := hl
  have hg : fL_pulse v x2 x3 x4 = fL_pulse v x2 x3 x4 := rfl
  refine lv_iload_n hC.1 hC.2.1 dL_pulse_0 rfl (lv_at hl 3 rfl) ?_
  refine lv_aload_n hC.1 hC.2.1 dL_pulse_1 rfl (lv_at hl 0 rfl) ?_
  refine lv_bipush (v := 7) hC.1 hC.2.1 dL_pulse_2 (by decide +kernel) ?_
  refine iald_k hC hKN hP 4 rfl (n := 21) (f := (v 4)) 7 (rfl) (by omega) (by first | decide | omega) dL_pulse_4 ?_
  refine lv_iconst (v := 1) hC.1 hC.2.1 dL_pulse_5 (by decide) ?_
  have J28 : ∀ (z0_28 : Int32) (z1_28 : Int32), fL_pulse v x2 x3 x4 = tL_pulse_J28 v x2 x3 x4 z0_28 z1_28 → ∀ (ls : Array Slot), lv_has ls 5 [(0, .ref (q 4)), (1, .int x2), (2, .int x3)] → W p l e ({ frames := 0, cells := 0, slots := 0, locals := 0 }) s m ([.ref (q 4), .int x2, .int x3, .int x4] : List Value).toArray below meth c s.heap [] 0 0 (MQ below (QP (.int (fL_pulse v x2 x3 x4))) ([.ref (q 4), .int x2, .int x3, .int x4] : List Value).toArray s 0 0 (fun _ => False)) (F0 m 28 ls [.int z1_28, .int z0_28]) := by
    intro z0_28 z1_28 hg ls hl
    refine lv_iadd hC.1 hC.2.1 dL_pulse_28 ?_
    refine lv_istore (lv' := [(4, .int (z0_28 + z1_28)), (0, .ref (q 4)), (1, .int x2), (2, .int x3)]) hC.1 hC.2.1 dL_pulse_29 hl (by decide) rfl (fun ls hl => ?_)
    refine lv_iload hC.1 hC.2.1 dL_pulse_31 (lv_at hl 0 rfl) ?_
    refine lv_aload_n hC.1 hC.2.1 dL_pulse_33 rfl (lv_at hl 1 rfl) ?_
    refine lv_bipush (v := 13) hC.1 hC.2.1 dL_pulse_34 (by decide +kernel) ?_
    refine iald_k hC hKN hP 4 rfl (n := 21) (f := (v 4)) 13 (rfl) (by omega) (by first | decide | omega) dL_pulse_36 ?_
    refine lv_iload_n hC.1 hC.2.1 dL_pulse_37 rfl (lv_at hl 3 rfl) ?_
    refine lv_ishr hC.1 hC.2.1 dL_pulse_38 ?_
    refine lv_iconst (v := 1) hC.1 hC.2.1 dL_pulse_39 (by decide) ?_
    refine lv_iand hC.1 hC.2.1 dL_pulse_40 ?_
    refine lv_iconst (v := 1) hC.1 hC.2.1 dL_pulse_41 (by decide) ?_
    have J51 : ∀ (z0_51 : Int32) (z1_51 : Int32), fL_pulse v x2 x3 x4 = tL_pulse_J51 v x2 x3 x4 z0_51 z1_51 → ∀ (ls : Array Slot), lv_has ls 5 [(0, .ref (q 4)), (1, .int x2), (2, .int x3)] → W p l e ({ frames := 0, cells := 0, slots := 0, locals := 0 }) s m ([.ref (q 4), .int x2, .int x3, .int x4] : List Value).toArray below meth c s.heap [] 0 0 (MQ below (QP (.int (fL_pulse v x2 x3 x4))) ([.ref (q 4), .int x2, .int x3, .int x4] : List Value).toArray s 0 0 (fun _ => False)) (F0 m 51 ls [.int z1_51, .int z0_51]) := by
      intro z0_51 z1_51 hg ls hl
      refine lv_isub hC.1 hC.2.1 dL_pulse_51 ?_
      refine lv_istore (lv' := [(4, .int (z0_51 - z1_51)), (0, .ref (q 4)), (1, .int x2), (2, .int x3)]) hC.1 hC.2.1 dL_pulse_52 hl (by decide) rfl (fun ls hl => ?_)
      refine lv_iload hC.1 hC.2.1 dL_pulse_54 (lv_at hl 0 rfl) ?_
      refine lv_aload_n hC.1 hC.2.1 dL_pulse_56 rfl (lv_at hl 1 rfl) ?_
      refine lv_bipush (v := 14) hC.1 hC.2.1 dL_pulse_57 (by decide +kernel) ?_
      refine iald_k hC hKN hP 4 rfl (n := 21) (f := (v 4)) 14 (rfl) (by omega) (by first | decide | omega) dL_pulse_59 ?_
      refine lv_iload_n hC.1 hC.2.1 dL_pulse_60 rfl (lv_at hl 3 rfl) ?_
      refine lv_ishr hC.1 hC.2.1 dL_pulse_61 ?_
      refine lv_iconst (v := 1) hC.1 hC.2.1 dL_pulse_62 (by decide) ?_
      refine lv_iand hC.1 hC.2.1 dL_pulse_63 ?_
      refine lv_iconst (v := 1) hC.1 hC.2.1 dL_pulse_64 (by decide) ?_
      have J74 : ∀ (z0_74 : Int32) (z1_74 : Int32), fL_pulse v x2 x3 x4 = tL_pulse_J74 v x2 x3 x4 z0_74 z1_74 → ∀ (ls : Array Slot), lv_has ls 5 [(1, .int x2), (2, .int x3)] → W p l e ({ frames := 0, cells := 0, slots := 0, locals := 0 }) s m ([.ref (q 4), .int x2, .int x3, .int x4] : List Value).toArray below meth c s.heap [] 0 0 (MQ below (QP (.int (fL_pulse v x2 x3 x4))) ([.ref (q 4), .int x2, .int x3, .int x4] : List Value).toArray s 0 0 (fun _ => False)) (F0 m 74 ls [.int z1_74, .int z0_74]) := by
        intro z0_74 z1_74 hg ls hl
        refine lv_isub hC.1 hC.2.1 dL_pulse_74 ?_
        refine lv_istore (lv' := [(4, .int (z0_74 - z1_74)), (1, .int x2), (2, .int x3)]) hC.1 hC.2.1 dL_pulse_75 hl (by decide) rfl (fun ls hl => ?_)
        refine lv_iload hC.1 hC.2.1 dL_pulse_77 (lv_at hl 0 rfl) ?_
        refine lv_iload_n hC.1 hC.2.1 dL_pulse_79 rfl (lv_at hl 2 rfl) ?_
        have J99 : ∀ (z0_99 : Int32) (z1_99 : Int32), fL_pulse v x2 x3 x4 = tL_pulse_J99 v x2 x3 x4 z0_99 z1_99 → ∀ (ls : Array Slot), lv_has ls 5 [(1, .int x2), (2, .int x3)] → W p l e ({ frames := 0, cells := 0, slots := 0, locals := 0 }) s m ([.ref (q 4), .int x2, .int x3, .int x4] : List Value).toArray below meth c s.heap [] 0 0 (MQ below (QP (.int (fL_pulse v x2 x3 x4))) ([.ref (q 4), .int x2, .int x3, .int x4] : List Value).toArray s 0 0 (fun _ => False)) (F0 m 99 ls [.int z1_99, .int z0_99]) := by
          intro z0_99 z1_99 hg ls hl
          refine lv_isub hC.1 hC.2.1 dL_pulse_99 ?_
          refine lv_istore (lv' := [(4, .int (z0_99 - z1_99)), (1, .int x2), (2, .int x3)]) hC.1 hC.2.1 dL_pulse_100 hl (by decide) rfl (fun ls hl => ?_)
          refine lv_iload hC.1 hC.2.1 dL_pulse_102 (lv_at hl 0 rfl) ?_
          refine lv_iload_n hC.1 hC.2.1 dL_pulse_104 rfl (lv_at hl 2 rfl) ?_
          refine lv_bipush (v := 23) hC.1 hC.2.1 dL_pulse_105 (by decide +kernel) ?_
          have J126 : ∀ (z0_126 : Int32) (z1_126 : Int32), fL_pulse v x2 x3 x4 = tL_pulse_J126 v x2 x3 x4 z0_126 z1_126 → ∀ (ls : Array Slot), lv_has ls 5 [] → W p l e ({ frames := 0, cells := 0, slots := 0, locals := 0 }) s m ([.ref (q 4), .int x2, .int x3, .int x4] : List Value).toArray below meth c s.heap [] 0 0 (MQ below (QP (.int (fL_pulse v x2 x3 x4))) ([.ref (q 4), .int x2, .int x3, .int x4] : List Value).toArray s 0 0 (fun _ => False)) (F0 m 126 ls [.int z1_126, .int z0_126]) := by
            intro z0_126 z1_126 hg ls hl
            refine lv_isub hC.1 hC.2.1 dL_pulse_126 ?_
            refine lv_istore (lv' := [(4, .int (z0_126 - z1_126))]) hC.1 hC.2.1 dL_pulse_127 hl (by decide) rfl (fun ls hl => ?_)
            refine lv_iload hC.1 hC.2.1 dL_pulse_129 (lv_at hl 0 rfl) ?_
            refine lv_bipush (v := 20) hC.1 hC.2.1 dL_pulse_131 (by decide +kernel) ?_
            refine lv_icmp_le (tgt := 141) hC.1 hC.2.1 dL_pulse_133 (by decide) (fun k133 => ?_) (fun k133 => ?_)
            · refine lv_bipush (v := 20) hC.1 hC.2.1 dL_pulse_141 (by decide +kernel) ?_
              have e_1 : tL_pulse_J126 v x2 x3 x4 z0_126 z1_126 = 20 := by delta tL_pulse_J126; exact Eq.trans (if_pos k133) rfl
              have hg : fL_pulse v x2 x3 x4 = 20 := by have e2 := congrArg (fun z => z) e_1; exact hg.trans e2
              exact eP_i hC (congrArg Value.int hg) dL_pulse_143
            · refine lv_iload hC.1 hC.2.1 dL_pulse_136 (lv_at hl 0 rfl) ?_
              refine lv_goto (tgt := 143) hC.1 hC.2.1 dL_pulse_138 (by decide) ?_
              have e_2 : tL_pulse_J126 v x2 x3 x4 z0_126 z1_126 = z0_126 - z1_126 := by delta tL_pulse_J126; exact Eq.trans (if_neg k133) rfl
              have hg : fL_pulse v x2 x3 x4 = z0_126 - z1_126 := by have e2 := congrArg (fun z => z) e_2; exact hg.trans e2
              exact eP_i hC (congrArg Value.int hg) dL_pulse_143
          refine lv_icmp_ge (tgt := 125) hC.1 hC.2.1 dL_pulse_107 (by decide) (fun k107 => ?_) (fun k107 => ?_)
          · refine lv_iconst (v := 0) hC.1 hC.2.1 dL_pulse_125 (by decide) ?_
            have e_3 : tL_pulse_J99 v x2 x3 x4 z0_99 z1_99 = tL_pulse_J126 v x2 x3 x4 (z0_99 - z1_99) 0 := by delta tL_pulse_J99; exact Eq.trans (if_pos k107) rfl
            have hg : fL_pulse v x2 x3 x4 = tL_pulse_J126 v x2 x3 x4 (z0_99 - z1_99) 0 := by have e2 := congrArg (fun z => z) e_3; exact hg.trans e2
            exact J126 (z0_99 - z1_99) 0 hg _ (lv_sub hl [] rfl)
          · refine lv_iload_n hC.1 hC.2.1 dL_pulse_110 rfl (lv_at hl 1 rfl) ?_
            refine lv_iload_n hC.1 hC.2.1 dL_pulse_111 rfl (lv_at hl 2 rfl) ?_
            refine lv_iconst (v := 1) hC.1 hC.2.1 dL_pulse_112 (by decide) ?_
            refine lv_iadd hC.1 hC.2.1 dL_pulse_113 ?_
            refine lv_ishr hC.1 hC.2.1 dL_pulse_114 ?_
            refine lv_iconst (v := 1) hC.1 hC.2.1 dL_pulse_115 (by decide) ?_
            refine lv_iand hC.1 hC.2.1 dL_pulse_116 ?_
            refine lv_iconst (v := 1) hC.1 hC.2.1 dL_pulse_117 (by decide) ?_
            refine lv_icmp_ne (tgt := 125) hC.1 hC.2.1 dL_pulse_118 (by decide) (fun k118 => ?_) (fun k118 => ?_)
            · refine lv_iconst (v := 0) hC.1 hC.2.1 dL_pulse_125 (by decide) ?_
              have e_4 : tL_pulse_J99 v x2 x3 x4 z0_99 z1_99 = tL_pulse_J126 v x2 x3 x4 (z0_99 - z1_99) 0 := by delta tL_pulse_J99; exact Eq.trans (if_neg k107) (Eq.trans (if_neg k118) rfl)
              have hg : fL_pulse v x2 x3 x4 = tL_pulse_J126 v x2 x3 x4 (z0_99 - z1_99) 0 := by have e2 := congrArg (fun z => z) e_4; exact hg.trans e2
              exact J126 (z0_99 - z1_99) 0 hg _ (lv_sub hl [] rfl)
            · refine lv_iconst (v := 5) hC.1 hC.2.1 dL_pulse_121 (by decide) ?_
              refine lv_goto (tgt := 126) hC.1 hC.2.1 dL_pulse_122 (by decide) ?_
              have e_5 : tL_pulse_J99 v x2 x3 x4 z0_99 z1_99 = tL_pulse_J126 v x2 x3 x4 (z0_99 - z1_99) 5 := by delta tL_pulse_J99; exact Eq.trans (if_neg k107) (Eq.trans (if_pos k118) rfl)
              have hg : fL_pulse v x2 x3 x4 = tL_pulse_J126 v x2 x3 x4 (z0_99 - z1_99) 5 := by have e2 := congrArg (fun z => z) e_5; exact hg.trans e2
              exact J126 (z0_99 - z1_99) 5 hg _ (lv_sub hl [] rfl)
        refine lv_if_le (tgt := 98) hC.1 hC.2.1 dL_pulse_80 (by decide) (fun k80 => ?_) (fun k80 => ?_)
        · refine lv_iconst (v := 0) hC.1 hC.2.1 dL_pulse_98 (by decide) ?_
          have e_6 : tL_pulse_J74 v x2 x3 x4 z0_74 z1_74 = tL_pulse_J99 v x2 x3 x4 (z0_74 - z1_74) 0 := by delta tL_pulse_J74; exact Eq.trans (if_pos k80) rfl
          have hg : fL_pulse v x2 x3 x4 = tL_pulse_J99 v x2 x3 x4 (z0_74 - z1_74) 0 := by have e2 := congrArg (fun z => z) e_6; exact hg.trans e2
          exact J99 (z0_74 - z1_74) 0 hg _ (lv_sub hl [1, 2] rfl)
        · refine lv_iload_n hC.1 hC.2.1 dL_pulse_83 rfl (lv_at hl 1 rfl) ?_
          refine lv_iload_n hC.1 hC.2.1 dL_pulse_84 rfl (lv_at hl 2 rfl) ?_
          refine lv_iconst (v := 1) hC.1 hC.2.1 dL_pulse_85 (by decide) ?_
          refine lv_isub hC.1 hC.2.1 dL_pulse_86 ?_
          refine lv_ishr hC.1 hC.2.1 dL_pulse_87 ?_
          refine lv_iconst (v := 1) hC.1 hC.2.1 dL_pulse_88 (by decide) ?_
          refine lv_iand hC.1 hC.2.1 dL_pulse_89 ?_
          refine lv_iconst (v := 1) hC.1 hC.2.1 dL_pulse_90 (by decide) ?_
          refine lv_icmp_ne (tgt := 98) hC.1 hC.2.1 dL_pulse_91 (by decide) (fun k91 => ?_) (fun k91 => ?_)
          · refine lv_iconst (v := 0) hC.1 hC.2.1 dL_pulse_98 (by decide) ?_
            have e_7 : tL_pulse_J74 v x2 x3 x4 z0_74 z1_74 = tL_pulse_J99 v x2 x3 x4 (z0_74 - z1_74) 0 := by delta tL_pulse_J74; exact Eq.trans (if_neg k80) (Eq.trans (if_neg k91) rfl)
            have hg : fL_pulse v x2 x3 x4 = tL_pulse_J99 v x2 x3 x4 (z0_74 - z1_74) 0 := by have e2 := congrArg (fun z => z) e_7; exact hg.trans e2
            exact J99 (z0_74 - z1_74) 0 hg _ (lv_sub hl [1, 2] rfl)
          · refine lv_iconst (v := 5) hC.1 hC.2.1 dL_pulse_94 (by decide) ?_
            refine lv_goto (tgt := 99) hC.1 hC.2.1 dL_pulse_95 (by decide) ?_
            have e_8 : tL_pulse_J74 v x2 x3 x4 z0_74 z1_74 = tL_pulse_J99 v x2 x3 x4 (z0_74 - z1_74) 5 := by delta tL_pulse_J74; exact Eq.trans (if_neg k80) (Eq.trans (if_pos k91) rfl)
            have hg : fL_pulse v x2 x3 x4 = tL_pulse_J99 v x2 x3 x4 (z0_74 - z1_74) 5 := by have e2 := congrArg (fun z => z) e_8; exact hg.trans e2
            exact J99 (z0_74 - z1_74) 5 hg _ (lv_sub hl [1, 2] rfl)
      refine lv_icmp_ne (tgt := 73) hC.1 hC.2.1 dL_pulse_65 (by decide) (fun k65 => ?_) (fun k65 => ?_)
      · refine lv_iconst (v := 0) hC.1 hC.2.1 dL_pulse_73 (by decide) ?_
        have e_9 : tL_pulse_J51 v x2 x3 x4 z0_51 z1_51 = tL_pulse_J74 v x2 x3 x4 (z0_51 - z1_51) 0 := by delta tL_pulse_J51; exact Eq.trans (if_neg k65) rfl
        have hg : fL_pulse v x2 x3 x4 = tL_pulse_J74 v x2 x3 x4 (z0_51 - z1_51) 0 := by have e2 := congrArg (fun z => z) e_9; exact hg.trans e2
        exact J74 (z0_51 - z1_51) 0 hg _ (lv_sub hl [2, 3] rfl)
      · refine lv_bipush (v := 10) hC.1 hC.2.1 dL_pulse_68 (by decide +kernel) ?_
        refine lv_goto (tgt := 74) hC.1 hC.2.1 dL_pulse_70 (by decide) ?_
        have e_10 : tL_pulse_J51 v x2 x3 x4 z0_51 z1_51 = tL_pulse_J74 v x2 x3 x4 (z0_51 - z1_51) 10 := by delta tL_pulse_J51; exact Eq.trans (if_pos k65) rfl
        have hg : fL_pulse v x2 x3 x4 = tL_pulse_J74 v x2 x3 x4 (z0_51 - z1_51) 10 := by have e2 := congrArg (fun z => z) e_10; exact hg.trans e2
        exact J74 (z0_51 - z1_51) 10 hg _ (lv_sub hl [2, 3] rfl)
    refine lv_icmp_ne (tgt := 50) hC.1 hC.2.1 dL_pulse_42 (by decide) (fun k42 => ?_) (fun k42 => ?_)
    · refine lv_iconst (v := 0) hC.1 hC.2.1 dL_pulse_50 (by decide) ?_
      have e_11 : tL_pulse_J28 v x2 x3 x4 z0_28 z1_28 = tL_pulse_J51 v x2 x3 x4 (z0_28 + z1_28) 0 := by delta tL_pulse_J28; exact Eq.trans (if_neg k42) rfl
      have hg : fL_pulse v x2 x3 x4 = tL_pulse_J51 v x2 x3 x4 (z0_28 + z1_28) 0 := by have e2 := congrArg (fun z => z) e_11; exact hg.trans e2
      exact J51 (z0_28 + z1_28) 0 hg _ (lv_sub hl [1, 2, 3] rfl)
    · refine lv_bipush (v := 20) hC.1 hC.2.1 dL_pulse_45 (by decide +kernel) ?_
      refine lv_goto (tgt := 51) hC.1 hC.2.1 dL_pulse_47 (by decide) ?_
      have e_12 : tL_pulse_J28 v x2 x3 x4 z0_28 z1_28 = tL_pulse_J51 v x2 x3 x4 (z0_28 + z1_28) 20 := by delta tL_pulse_J28; exact Eq.trans (if_pos k42) rfl
      have hg : fL_pulse v x2 x3 x4 = tL_pulse_J51 v x2 x3 x4 (z0_28 + z1_28) 20 := by have e2 := congrArg (fun z => z) e_12; exact hg.trans e2
      exact J51 (z0_28 + z1_28) 20 hg _ (lv_sub hl [1, 2, 3] rfl)
  refine lv_icmp_ne (tgt := 14) hC.1 hC.2.1 dL_pulse_6 (by decide) (fun k6 => ?_) (fun k6 => ?_)
  · refine lv_aload_n hC.1 hC.2.1 dL_pulse_14 rfl (lv_at hl 0 rfl) ?_
    refine lv_bipush (v := 7) hC.1 hC.2.1 dL_pulse_15 (by decide +kernel) ?_
    refine iald_k hC hKN hP 4 rfl (n := 21) (f := (v 4)) 7 (rfl) (by omega) (by first | decide | omega) dL_pulse_17 ?_
    refine lv_iconst (v := 2) hC.1 hC.2.1 dL_pulse_18 (by decide) ?_
    refine lv_icmp_ne (tgt := 27) hC.1 hC.2.1 dL_pulse_19 (by decide) (fun k19 => ?_) (fun k19 => ?_)
    · refine lv_iconst (v := 0) hC.1 hC.2.1 dL_pulse_27 (by decide) ?_
      have e_13 : fL_pulse v x2 x3 x4 = tL_pulse_J28 v x2 x3 x4 x4 0 := by delta fL_pulse; exact Eq.trans (if_neg k6) (Eq.trans (if_neg k19) rfl)
      have hg : fL_pulse v x2 x3 x4 = tL_pulse_J28 v x2 x3 x4 x4 0 := by have e2 := congrArg (fun z => z) e_13; exact hg.trans e2
      exact J28 x4 0 hg _ (lv_sub hl [0, 1, 2] rfl)
    · refine lv_bipush (v := 25) hC.1 hC.2.1 dL_pulse_22 (by decide +kernel) ?_
      refine lv_goto (tgt := 28) hC.1 hC.2.1 dL_pulse_24 (by decide) ?_
      have e_14 : fL_pulse v x2 x3 x4 = tL_pulse_J28 v x2 x3 x4 x4 25 := by delta fL_pulse; exact Eq.trans (if_neg k6) (Eq.trans (if_pos k19) rfl)
      have hg : fL_pulse v x2 x3 x4 = tL_pulse_J28 v x2 x3 x4 x4 25 := by have e2 := congrArg (fun z => z) e_14; exact hg.trans e2
      exact J28 x4 25 hg _ (lv_sub hl [0, 1, 2] rfl)
  · refine lv_bipush (v := (-15)) hC.1 hC.2.1 dL_pulse_9 (by decide +kernel) ?_
    refine lv_goto (tgt := 28) hC.1 hC.2.1 dL_pulse_11 (by decide) ?_
    have e_15 : fL_pulse v x2 x3 x4 = tL_pulse_J28 v x2 x3 x4 x4 (-15) := by delta fL_pulse; exact Eq.trans (if_pos k6) rfl
    have hg : fL_pulse v x2 x3 x4 = tL_pulse_J28 v x2 x3 x4 x4 (-15) := by have e2 := congrArg (fun z => z) e_15; exact hg.trans e2
    exact J28 x4 (-15) hg _ (lv_sub hl [0, 1, 2] rfl)

theorem dL_dark_0 : decode cL_dark 0 = .ok (.aload_n 0, 1) := by decide +kernel
theorem dL_dark_1 : decode cL_dark 1 = .ok (.bipush 7, 2) := by decide +kernel
theorem dL_dark_3 : decode cL_dark 3 = .ok (.iaload, 1) := by decide +kernel
theorem dL_dark_4 : decode cL_dark 4 = .ok (.iconst 2, 1) := by decide +kernel
theorem dL_dark_5 : decode cL_dark 5 = .ok (.if_icmp .ne 9, 3) := by decide +kernel
theorem dL_dark_8 : decode cL_dark 8 = .ok (.sipush 150, 3) := by decide +kernel
theorem dL_dark_11 : decode cL_dark 11 = .ok (.goto 13, 3) := by decide +kernel
theorem dL_dark_14 : decode cL_dark 14 = .ok (.bipush 110, 2) := by decide +kernel
theorem dL_dark_16 : decode cL_dark 16 = .ok (.bipush 20, 2) := by decide +kernel
theorem dL_dark_18 : decode cL_dark 18 = .ok (.aload_n 0, 1) := by decide +kernel
theorem dL_dark_19 : decode cL_dark 19 = .ok (.bipush 7, 2) := by decide +kernel
theorem dL_dark_21 : decode cL_dark 21 = .ok (.iaload, 1) := by decide +kernel
theorem dL_dark_22 : decode cL_dark 22 = .ok (.imul, 1) := by decide +kernel
theorem dL_dark_23 : decode cL_dark 23 = .ok (.isub, 1) := by decide +kernel
theorem dL_dark_24 : decode cL_dark 24 = .ok (.ireturn, 1) := by decide +kernel
set_option maxHeartbeats 1000000 in
set_option maxRecDepth 100000 in
theorem c_L_dark (l : Launch) (G : GT) (q : Nat → Nat) (v : SV) : Met l yL_dark (Cond.code yL_dark cL_dark 1 (some .int) :: bigW) ({ frames := 0, cells := 0, slots := 0, locals := 0 }) (BP G [.ref (q 4)] (fun U H => PW G (lwW G q v) H)) (QP (.int (fL_dark v))) 0 0 (fun _ => False) := by
  refine met_of (by decide) (Nat.le_of_ble_eq_true rfl) ?_
  intro p e s m below meth c ls hC hKN hB0 hl
  have hP := hB0
  have hl : lv_has ls 1 [(0, .ref (q 4))] := hl
  have hg : fL_dark v = fL_dark v := rfl
  refine lv_aload_n hC.1 hC.2.1 dL_dark_0 rfl (lv_at hl 0 rfl) ?_
  refine lv_bipush (v := 7) hC.1 hC.2.1 dL_dark_1 (by decide +kernel) ?_
  refine iald_k hC hKN hP 4 rfl (n := 21) (f := (v 4)) 7 (rfl) (by omega) (by first | decide | omega) dL_dark_3 ?_
  refine lv_iconst (v := 2) hC.1 hC.2.1 dL_dark_4 (by decide) ?_
  refine lv_icmp_ne (tgt := 14) hC.1 hC.2.1 dL_dark_5 (by decide) (fun k5 => ?_) (fun k5 => ?_)
  · refine lv_bipush (v := 110) hC.1 hC.2.1 dL_dark_14 (by decide +kernel) ?_
    refine lv_bipush (v := 20) hC.1 hC.2.1 dL_dark_16 (by decide +kernel) ?_
    refine lv_aload_n hC.1 hC.2.1 dL_dark_18 rfl (lv_at hl 0 rfl) ?_
    refine lv_bipush (v := 7) hC.1 hC.2.1 dL_dark_19 (by decide +kernel) ?_
    refine iald_k hC hKN hP 4 rfl (n := 21) (f := (v 4)) 7 (rfl) (by omega) (by first | decide | omega) dL_dark_21 ?_
    refine lv_imul hC.1 hC.2.1 dL_dark_22 ?_
    refine lv_isub hC.1 hC.2.1 dL_dark_23 ?_
    have e_1 : fL_dark v = 110 - (20 * ((v 4) 7)) := by delta fL_dark; exact Eq.trans (if_neg k5) rfl
    have hg : fL_dark v = 110 - (20 * ((v 4) 7)) := by have e2 := congrArg (fun z => z) e_1; exact hg.trans e2
    exact eP_i hC (congrArg Value.int hg) dL_dark_24
  · refine lv_sipush (v := 150) hC.1 hC.2.1 dL_dark_8 (by decide +kernel) ?_
    refine lv_goto (tgt := 24) hC.1 hC.2.1 dL_dark_11 (by decide) ?_
    have e_2 : fL_dark v = 150 := by delta fL_dark; exact Eq.trans (if_pos k5) rfl
    have hg : fL_dark v = 150 := by have e2 := congrArg (fun z => z) e_2; exact hg.trans e2
    exact eP_i hC (congrArg Value.int hg) dL_dark_24

theorem dL_ones_0 : decode cL_ones 0 = .ok (.iconst 0, 1) := by decide +kernel
theorem dL_ones_1 : decode cL_ones 1 = .ok (.istore_n 1, 1) := by decide +kernel
theorem dL_ones_2 : decode cL_ones 2 = .ok (.iload_n 0, 1) := by decide +kernel
theorem dL_ones_3 : decode cL_ones 3 = .ok (.istore_n 2, 1) := by decide +kernel
theorem dL_ones_4 : decode cL_ones 4 = .ok (.iload_n 2, 1) := by decide +kernel
theorem dL_ones_5 : decode cL_ones 5 = .ok (.ifCond .eq 15, 3) := by decide +kernel
theorem dL_ones_8 : decode cL_ones 8 = .ok (.iinc 1 1, 3) := by decide +kernel
theorem dL_ones_11 : decode cL_ones 11 = .ok (.iload_n 2, 1) := by decide +kernel
theorem dL_ones_12 : decode cL_ones 12 = .ok (.iload_n 2, 1) := by decide +kernel
theorem dL_ones_13 : decode cL_ones 13 = .ok (.iconst 1, 1) := by decide +kernel
theorem dL_ones_14 : decode cL_ones 14 = .ok (.isub, 1) := by decide +kernel
theorem dL_ones_15 : decode cL_ones 15 = .ok (.iand, 1) := by decide +kernel
theorem dL_ones_16 : decode cL_ones 16 = .ok (.istore_n 2, 1) := by decide +kernel
theorem dL_ones_17 : decode cL_ones 17 = .ok (.goto (-13), 3) := by decide +kernel
theorem dL_ones_20 : decode cL_ones 20 = .ok (.iload_n 1, 1) := by decide +kernel
theorem dL_ones_21 : decode cL_ones 21 = .ok (.ireturn, 1) := by decide +kernel
set_option maxHeartbeats 1000000 in
set_option maxRecDepth 100000 in
theorem c_L_ones (l : Launch) (G : GT) (x1 : Int32) : Met l yL_ones (Cond.code yL_ones cL_ones 3 (some .int) :: bigW) ({ frames := 0, cells := 0, slots := 0, locals := 0 }) (BP G [.int x1] (fun U H => True)) (QP (.int (fL_ones x1))) 0 0 (fun _ => False) := by
  refine met_of (by decide) (Nat.le_of_ble_eq_true rfl) ?_
  intro p e s m below meth c ls hC hKN hB0 hl
  have hl : lv_has ls 3 [(0, .int x1)] := hl
  have hg : fL_ones x1 = fL_ones x1 := rfl
  refine lv_iconst (v := 0) hC.1 hC.2.1 dL_ones_0 (by decide) ?_
  refine lv_istore_n (lv' := [(1, .int 0), (0, .int x1)]) hC.1 hC.2.1 dL_ones_1 rfl hl (by decide) rfl (fun ls hl => ?_)
  refine lv_iload_n hC.1 hC.2.1 dL_ones_2 rfl (lv_at hl 1 rfl) ?_
  refine lv_istore_n (lv' := [(2, .int x1), (1, .int 0), (0, .int x1)]) hC.1 hC.2.1 dL_ones_3 rfl hl (by decide) rfl (fun ls hl => ?_)
  have A4 : ∀ (y1_4 : Int32) (y2_4 : Int32), fL_ones x1 = (tL_ones_4 x1 (y1_4, y2_4)) → ∀ (ls : Array Slot), lv_has ls 3 [(1, .int y1_4)] → W p l e ({ frames := 0, cells := 0, slots := 0, locals := 0 }) s m ([.int x1] : List Value).toArray below meth c s.heap [] 0 0 (MQ below (QP (.int (fL_ones x1))) ([.int x1] : List Value).toArray s 0 0 (fun _ => False)) (F0 m 20 ls []) := by
    intro  y1_4 y2_4 hg ls hl
    refine lv_iload_n hC.1 hC.2.1 dL_ones_20 rfl (lv_at hl 0 rfl) ?_
    have e_1 : tL_ones_4 x1 (y1_4, y2_4) = y1_4 := by delta tL_ones_4; exact rfl
    have hg : fL_ones x1 = y1_4 := by have e2 := congrArg (fun z => z) e_1; exact hg.trans e2
    exact eP_i hC (congrArg Value.int hg) dL_ones_21
  have L4 : ∀ (n4 : Nat), ∀ (y1_4 : Int32) (y2_4 : Int32), lpT n4 (bL_ones_4 x1) (y1_4, y2_4) → fL_ones x1 = (tL_ones_4 x1 (lpB n4 (bL_ones_4 x1) (y1_4, y2_4))) → ∀ (ls : Array Slot), lv_has ls 3 [(1, .int y1_4), (2, .int y2_4)] → W p l e ({ frames := 0, cells := 0, slots := 0, locals := 0 }) s m ([.int x1] : List Value).toArray below meth c s.heap [] 0 0 (MQ below (QP (.int (fL_ones x1))) ([.int x1] : List Value).toArray s 0 0 (fun _ => False)) (F0 m 4 ls []) := by
    intro n4
    induction n4 with
    | zero =>
      intro y1_4 y2_4 hT
      exact hT.elim
    | succ n4 ih =>
      intro y1_4 y2_4 hT hg ls hl
      have hg : fL_ones x1 = (tL_ones_4 x1 (lpBs n4 (bL_ones_4 x1) (bL_ones_4 x1 (y1_4, y2_4)))) := hg
      have hT : lpTs n4 (bL_ones_4 x1) (bL_ones_4 x1 (y1_4, y2_4)) := hT
      refine lv_iload_n hC.1 hC.2.1 dL_ones_4 rfl (lv_at hl 1 rfl) ?_
      refine lv_if_eq (tgt := 20) hC.1 hC.2.1 dL_ones_5 (by decide) (fun k5 => ?_) (fun k5 => ?_)
      · have e_2 : bL_ones_4 x1 (y1_4, y2_4) = (false, (y1_4, y2_4)) := by delta bL_ones_4; exact Eq.trans (if_pos k5) rfl
        have hg : fL_ones x1 = (tL_ones_4 x1 (y1_4, y2_4)) := by have e2 := congrArg (fun z => (tL_ones_4 x1 (lpBs n4 (bL_ones_4 x1) z))) e_2; exact hg.trans e2
        have hT : lpTs n4 (bL_ones_4 x1) (false, (y1_4, y2_4)) := by rw [← e_2]; exact hT
        exact A4  y1_4 y2_4 hg _ (lv_sub hl [0] rfl)
      · refine lv_iinc (v := y1_4 + 1) (lv' := [(1, .int (y1_4 + 1)), (2, .int y2_4)]) hC.1 hC.2.1 dL_ones_8 hl (k := 0) rfl rfl (by decide) rfl (fun ls hl => ?_)
        refine lv_iload_n hC.1 hC.2.1 dL_ones_11 rfl (lv_at hl 1 rfl) ?_
        refine lv_iload_n hC.1 hC.2.1 dL_ones_12 rfl (lv_at hl 1 rfl) ?_
        refine lv_iconst (v := 1) hC.1 hC.2.1 dL_ones_13 (by decide) ?_
        refine lv_isub hC.1 hC.2.1 dL_ones_14 ?_
        refine lv_iand hC.1 hC.2.1 dL_ones_15 ?_
        refine lv_istore_n (lv' := [(2, .int (y2_4 &&& (y2_4 - 1))), (1, .int (y1_4 + 1))]) hC.1 hC.2.1 dL_ones_16 rfl hl (by decide) rfl (fun ls hl => ?_)
        refine lv_goto (tgt := 4) hC.1 hC.2.1 dL_ones_17 (by decide) ?_
        have e_3 : bL_ones_4 x1 (y1_4, y2_4) = (true, (y1_4 + 1, y2_4 &&& (y2_4 - 1))) := by delta bL_ones_4; exact Eq.trans (if_neg k5) rfl
        have hg : fL_ones x1 = (tL_ones_4 x1 (lpB n4 (bL_ones_4 x1) (y1_4 + 1, y2_4 &&& (y2_4 - 1)))) := by have e2 := congrArg (fun z => (tL_ones_4 x1 (lpBs n4 (bL_ones_4 x1) z))) e_3; exact hg.trans e2
        have hT : lpTs n4 (bL_ones_4 x1) (true, (y1_4 + 1, y2_4 &&& (y2_4 - 1))) := by rw [← e_3]; exact hT
        exact ih (y1_4 + 1) (y2_4 &&& (y2_4 - 1)) (lpT_go hT) hg _ (lv_sub hl [1, 0] rfl)
  have e_4 : fL_ones x1 = tL_ones_4 x1 (lpB (33 + 1) (bL_ones_4 x1) (0, x1)) := by delta fL_ones; exact rfl
  have hg : fL_ones x1 = (tL_ones_4 x1 (lpB (33 + 1) (bL_ones_4 x1) (0, x1))) := by have e2 := congrArg (fun z => z) e_4; exact hg.trans e2
  exact L4  (33 + 1) 0 x1 (T_ones x1 _) hg _ (lv_sub hl [1, 0] rfl)

theorem dL_copy_0 : decode cL_copy 0 = .ok (.iconst 0, 1) := by decide +kernel
theorem dL_copy_1 : decode cL_copy 1 = .ok (.istore_n 2, 1) := by decide +kernel
theorem dL_copy_2 : decode cL_copy 2 = .ok (.iload_n 2, 1) := by decide +kernel
theorem dL_copy_3 : decode cL_copy 3 = .ok (.aload_n 0, 1) := by decide +kernel
theorem dL_copy_4 : decode cL_copy 4 = .ok (.arraylength, 1) := by decide +kernel
theorem dL_copy_5 : decode cL_copy 5 = .ok (.if_icmp .ge 15, 3) := by decide +kernel
theorem dL_copy_8 : decode cL_copy 8 = .ok (.aload_n 1, 1) := by decide +kernel
theorem dL_copy_9 : decode cL_copy 9 = .ok (.iload_n 2, 1) := by decide +kernel
theorem dL_copy_10 : decode cL_copy 10 = .ok (.aload_n 0, 1) := by decide +kernel
theorem dL_copy_11 : decode cL_copy 11 = .ok (.iload_n 2, 1) := by decide +kernel
theorem dL_copy_12 : decode cL_copy 12 = .ok (.iaload, 1) := by decide +kernel
theorem dL_copy_13 : decode cL_copy 13 = .ok (.iastore, 1) := by decide +kernel
theorem dL_copy_14 : decode cL_copy 14 = .ok (.iinc 2 1, 3) := by decide +kernel
theorem dL_copy_17 : decode cL_copy 17 = .ok (.goto (-15), 3) := by decide +kernel
theorem dL_copy_20 : decode cL_copy 20 = .ok (.return_, 1) := by decide +kernel
set_option maxHeartbeats 1000000 in
set_option maxRecDepth 100000 in
theorem c_L_copy (l : Launch) (G : GT) (a1 : Nat) (n1 : Nat) (f1 : Nat → Int32) (a2 : Nat) (n2 : Nat) (f2 : Nat → Int32) (hlow : gL G ≤ a2) (hn : n1 ≤ n2) (hm : n2 < 2 ^ 31) (hne : ¬ a1 = a2) : Met l yL_copy (Cond.code yL_copy cL_copy 3 none :: bigW) ({ frames := 0, cells := 0, slots := 0, locals := 0 }) (BP G [.ref a1, .ref a2] (fun U H => RD a1 n1 f1 U H ∧ PW G (a1W G a2 n2 f2) H)) (QE (none) (fun H => PW G (a1W G a2 n2 (fL_copy n1 f1 n2 f2)) H) (fun z => z = a2)) 0 0 (fun z => z = a2) := by
  refine met_of (by decide) (Nat.le_of_ble_eq_true rfl) ?_
  intro p e s m below meth c ls hC hKN hB0 hl
  obtain ⟨hR1, hP⟩ := hB0
  have hl : lv_has ls 3 [(0, .ref a1), (1, .ref a2)] := hl
  have hS : va_S (fun z => z = a2) s.heap s.heap [] := va_S.rf
  have hAL : ∀ a, (fun z => z = a2) a → gL G ≤ a := fun a h => by rw [h]; exact hlow
  have hg : fL_copy n1 f1 n2 f2 = fL_copy n1 f1 n2 f2 := rfl
  refine lv_iconst (v := 0) hC.1 hC.2.1 dL_copy_0 (by decide) ?_
  refine lv_istore_n (lv' := [(2, .int 0), (0, .ref a1), (1, .ref a2)]) hC.1 hC.2.1 dL_copy_1 rfl hl (by decide) rfl (fun ls hl => ?_)
  have A2 : ∀ (f_2 : Nat → Int32), fL_copy n1 f1 n2 f2 = (tL_copy_2 n1 f1 n2 f2 f_2) → ∀ (H : Heap) (locs : List Loc), PW G (a1W G a2 n2 f_2) H → va_S (fun z => z = a2) s.heap H locs → ∀ (ls : Array Slot), lv_has ls 3 [] → W p l e ({ frames := 0, cells := 0, slots := 0, locals := 0 }) s m ([.ref a1, .ref a2] : List Value).toArray below meth c H locs 0 0 (MQ below (QE (none) (fun H => PW G (a1W G a2 n2 (fL_copy n1 f1 n2 f2)) H) (fun z => z = a2)) ([.ref a1, .ref a2] : List Value).toArray s 0 0 (fun z => z = a2)) (F0 m 20 ls []) := by
    intro  f_2 hg H locs hP hS ls hl
    have e_1 : tL_copy_2 n1 f1 n2 f2 f_2 = f_2 := by delta tL_copy_2; exact rfl
    have hg : fL_copy n1 f1 n2 f2 = f_2 := by have e2 := congrArg (fun z => z) e_1; exact hg.trans e2
    exact eE_v hC (by show PW G (a1W G a2 n2 (fL_copy n1 f1 n2 f2)) H; rw [hg]; exact hP) hS dL_copy_20
  have L2 : ∀ (nn2 d2 : Nat), ∀ (f_2 : Nat → Int32), d2 + nn2 = n1 → fL_copy n1 f1 n2 f2 = (tL_copy_2 n1 f1 n2 f2 (lpF nn2 d2 (bL_copy_2 n1 f1 n2 f2) f_2)) → ∀ (H : Heap) (locs : List Loc), PW G (a1W G a2 n2 f_2) H → va_S (fun z => z = a2) s.heap H locs → ∀ (ls : Array Slot), lv_has ls 3 [(0, .ref a1), (1, .ref a2), (2, .int (nI d2))] → W p l e ({ frames := 0, cells := 0, slots := 0, locals := 0 }) s m ([.ref a1, .ref a2] : List Value).toArray below meth c H locs 0 0 (MQ below (QE (none) (fun H => PW G (a1W G a2 n2 (fL_copy n1 f1 n2 f2)) H) (fun z => z = a2)) ([.ref a1, .ref a2] : List Value).toArray s 0 0 (fun z => z = a2)) (F0 m 2 ls []) := by
    intro nn2
    induction nn2 with
    | zero =>
      intro d2 f_2 hd hg H locs hP hS ls hl
      refine lv_iload_n hC.1 hC.2.1 dL_copy_2 rfl (lv_at hl 2 rfl) ?_
      refine lv_aload_n hC.1 hC.2.1 dL_copy_3 rfl (lv_at hl 0 rfl) ?_
      refine rd_len hC (RD_keep hR1 hS hne) dL_copy_4 ?_
      refine lv_icmp_ge (tgt := 20) hC.1 hC.2.1 dL_copy_5 (by decide) (fun k5 => ?_) (fun k5 => ?_)
      · exact A2  f_2 hg _ _ hP hS _ (lv_sub hl [] rfl)
      · exact absurd (nI_le (a := n1) (b := d2) (by omega) (by omega)) k5
    | succ nn2 ih =>
      intro d2 f_2 hd hg H locs hP hS ls hl
      have hg : fL_copy n1 f1 n2 f2 = (tL_copy_2 n1 f1 n2 f2 (lpF nn2 (d2 + 1) (bL_copy_2 n1 f1 n2 f2) (bL_copy_2 n1 f1 n2 f2 d2 f_2))) := hg
      refine lv_iload_n hC.1 hC.2.1 dL_copy_2 rfl (lv_at hl 2 rfl) ?_
      refine lv_aload_n hC.1 hC.2.1 dL_copy_3 rfl (lv_at hl 0 rfl) ?_
      refine rd_len hC (RD_keep hR1 hS hne) dL_copy_4 ?_
      refine lv_icmp_ge (tgt := 20) hC.1 hC.2.1 dL_copy_5 (by decide) (fun k5 => ?_) (fun k5 => ?_)
      · exact absurd k5 (nI_ge (a := d2) (b := n1) (by omega) (by omega))
      · refine lv_aload_n hC.1 hC.2.1 dL_copy_8 rfl (lv_at hl 1 rfl) ?_
        refine lv_iload_n hC.1 hC.2.1 dL_copy_9 rfl (lv_at hl 2 rfl) ?_
        refine lv_aload_n hC.1 hC.2.1 dL_copy_10 rfl (lv_at hl 0 rfl) ?_
        refine lv_iload_n hC.1 hC.2.1 dL_copy_11 rfl (lv_at hl 2 rfl) ?_
        refine rd_ld hC (RD_keep hR1 hS hne) (vp_in_nI (by omega) (by omega)) dL_copy_12 ?_
        refine lv_topi (fun w_2 ew_2 => ?_)
        refine iast_k hC (hKN.go hAL hS) hP (a1W_D f_2) hS 0 rfl (n := n2) (f := f_2) d2 (rfl) (by omega) (by first | decide | omega) dL_copy_13 (fun H locs hq_3 hS => ?_)
        have hP : PW G (a1W G a2 n2 (upd f_2 d2 w_2)) H := hq_3
        refine lv_iinc (v := nI (d2 + 1)) (lv' := [(2, .int (nI (d2 + 1))), (0, .ref a1), (1, .ref a2)]) hC.1 hC.2.1 dL_copy_14 hl (k := 2) rfl (nI_1 _) (by decide) rfl (fun ls hl => ?_)
        refine lv_goto (tgt := 2) hC.1 hC.2.1 dL_copy_17 (by decide) ?_
        have e_4 : bL_copy_2 n1 f1 n2 f2 d2 f_2 = upd f_2 d2 w_2 := by have q_ := ew_2.symm; subst q_; delta bL_copy_2; exact rfl
        have hg : fL_copy n1 f1 n2 f2 = (tL_copy_2 n1 f1 n2 f2 (lpF nn2 (d2 + 1) (bL_copy_2 n1 f1 n2 f2) (upd f_2 d2 w_2))) := by have e2 := congrArg (fun z => (tL_copy_2 n1 f1 n2 f2 (lpF nn2 (d2 + 1) (bL_copy_2 n1 f1 n2 f2) z))) e_4; exact hg.trans e2
        exact ih (d2 + 1) (upd f_2 d2 w_2) (by omega) hg _ _ hP hS _ (lv_sub hl [1, 2, 0] rfl)
  have e_5 : fL_copy n1 f1 n2 f2 = tL_copy_2 n1 f1 n2 f2 (lpF n1 0 (bL_copy_2 n1 f1 n2 f2) f2) := by delta fL_copy; exact rfl
  have hg : fL_copy n1 f1 n2 f2 = (tL_copy_2 n1 f1 n2 f2 (lpF n1 0 (bL_copy_2 n1 f1 n2 f2) f2)) := by have e2 := congrArg (fun z => z) e_5; exact hg.trans e2
  exact L2  n1 0 f2 (by omega) hg _ _ hP hS _ (lv_sub hl [1, 2, 0] rfl)

theorem dL_dots_0 : decode cL_dots 0 = .ok (.iload_n 0, 1) := by decide +kernel
theorem dL_dots_1 : decode cL_dots 1 = .ok (.iconst 3, 1) := by decide +kernel
theorem dL_dots_2 : decode cL_dots 2 = .ok (.invokestatic 78, 3) := by decide +kernel
theorem dL_dots_5 : decode cL_dots 5 = .ok (.ifCond .ne 12, 3) := by decide +kernel
theorem dL_dots_8 : decode cL_dots 8 = .ok (.iload_n 0, 1) := by decide +kernel
theorem dL_dots_9 : decode cL_dots 9 = .ok (.iconst 3, 1) := by decide +kernel
theorem dL_dots_10 : decode cL_dots 10 = .ok (.ishr, 1) := by decide +kernel
theorem dL_dots_11 : decode cL_dots 11 = .ok (.ldc 81, 2) := by decide +kernel
theorem dL_dots_13 : decode cL_dots 13 = .ok (.iand, 1) := by decide +kernel
theorem dL_dots_14 : decode cL_dots 14 = .ok (.goto 33, 3) := by decide +kernel
theorem dL_dots_17 : decode cL_dots 17 = .ok (.iload_n 0, 1) := by decide +kernel
theorem dL_dots_18 : decode cL_dots 18 = .ok (.iconst 3, 1) := by decide +kernel
theorem dL_dots_19 : decode cL_dots 19 = .ok (.invokestatic 78, 3) := by decide +kernel
theorem dL_dots_22 : decode cL_dots 22 = .ok (.iconst 1, 1) := by decide +kernel
theorem dL_dots_23 : decode cL_dots 23 = .ok (.if_icmp .ne 17, 3) := by decide +kernel
theorem dL_dots_26 : decode cL_dots 26 = .ok (.iload_n 0, 1) := by decide +kernel
theorem dL_dots_27 : decode cL_dots 27 = .ok (.iconst 4, 1) := by decide +kernel
theorem dL_dots_28 : decode cL_dots 28 = .ok (.ishr, 1) := by decide +kernel
theorem dL_dots_29 : decode cL_dots 29 = .ok (.iload_n 0, 1) := by decide +kernel
theorem dL_dots_30 : decode cL_dots 30 = .ok (.bipush 7, 2) := by decide +kernel
theorem dL_dots_32 : decode cL_dots 32 = .ok (.ishr, 1) := by decide +kernel
theorem dL_dots_33 : decode cL_dots 33 = .ok (.iand, 1) := by decide +kernel
theorem dL_dots_34 : decode cL_dots 34 = .ok (.ldc 81, 2) := by decide +kernel
theorem dL_dots_36 : decode cL_dots 36 = .ok (.iand, 1) := by decide +kernel
theorem dL_dots_37 : decode cL_dots 37 = .ok (.goto 10, 3) := by decide +kernel
theorem dL_dots_40 : decode cL_dots 40 = .ok (.iload_n 0, 1) := by decide +kernel
theorem dL_dots_41 : decode cL_dots 41 = .ok (.iconst 5, 1) := by decide +kernel
theorem dL_dots_42 : decode cL_dots 42 = .ok (.ishr, 1) := by decide +kernel
theorem dL_dots_43 : decode cL_dots 43 = .ok (.sipush 255, 3) := by decide +kernel
theorem dL_dots_46 : decode cL_dots 46 = .ok (.iand, 1) := by decide +kernel
theorem dL_dots_47 : decode cL_dots 47 = .ok (.ireturn, 1) := by decide +kernel
set_option maxHeartbeats 1000000 in
set_option maxRecDepth 100000 in
theorem c_L_dots (l : Launch) (G : GT) (x1 : Int32) : Met l yL_dots (Cond.code yL_dots cL_dots 1 (some .int) :: bigW) ({ frames := 1, cells := 0, slots := 0, locals := 21 }) (BP G [.int x1] (fun U H => True)) (QP (.int (fL_dots x1))) 0 0 (fun _ => False) := by
  refine met_of (by decide) (Nat.le_of_ble_eq_true rfl) ?_
  intro p e s m below meth c ls hC hKN hB0 hl
  have hl : lv_has ls 1 [(0, .int x1)] := hl
  have hg : fL_dots x1 = fL_dots x1 := rfl
  refine lv_iload_n hC.1 hC.2.1 dL_dots_0 rfl (lv_at hl 0 rfl) ?_
  refine lv_iconst (v := 3) hC.1 hC.2.1 dL_dots_1 (by decide) ?_
  refine runP (rS (B := fun U H => True) (As := [.int x1, .int 3]) (rest := []) hC mwL_low (c_L_low l G x1 3 (by decide)) wd_219 wd_218 ⟨rfl, rfl⟩ ⟨Nat.le_of_ble_eq_true rfl, Nat.le_of_ble_eq_true rfl⟩ (fun _ _ _ _ h => h) hKN trivial rfl hl.1 rfl (Nat.le_of_ble_eq_true rfl) dL_dots_2 ⟨Nat.zero_le _, Nat.zero_le _⟩) ?_
  refine lv_if_ne (tgt := 17) hC.1 hC.2.1 dL_dots_5 (by decide) (fun k5 => ?_) (fun k5 => ?_)
  · refine lv_iload_n hC.1 hC.2.1 dL_dots_17 rfl (lv_at hl 0 rfl) ?_
    refine lv_iconst (v := 3) hC.1 hC.2.1 dL_dots_18 (by decide) ?_
    refine runP (rS (B := fun U H => True) (As := [.int x1, .int 3]) (rest := []) hC mwL_low (c_L_low l G x1 3 (by decide)) wd_219 wd_218 ⟨rfl, rfl⟩ ⟨Nat.le_of_ble_eq_true rfl, Nat.le_of_ble_eq_true rfl⟩ (fun _ _ _ _ h => h) hKN trivial rfl hl.1 rfl (Nat.le_of_ble_eq_true rfl) dL_dots_19 ⟨Nat.zero_le _, Nat.zero_le _⟩) ?_
    refine lv_iconst (v := 1) hC.1 hC.2.1 dL_dots_22 (by decide) ?_
    refine lv_icmp_ne (tgt := 40) hC.1 hC.2.1 dL_dots_23 (by decide) (fun k23 => ?_) (fun k23 => ?_)
    · refine lv_iload_n hC.1 hC.2.1 dL_dots_40 rfl (lv_at hl 0 rfl) ?_
      refine lv_iconst (v := 5) hC.1 hC.2.1 dL_dots_41 (by decide) ?_
      refine lv_ishr hC.1 hC.2.1 dL_dots_42 ?_
      refine lv_sipush (v := 255) hC.1 hC.2.1 dL_dots_43 (by decide +kernel) ?_
      refine lv_iand hC.1 hC.2.1 dL_dots_46 ?_
      have e_1 : fL_dots x1 = (x1 >>> (5 &&& 31)) &&& 255 := by delta fL_dots; exact Eq.trans (if_neg k5) (Eq.trans (if_neg k23) rfl)
      have hg : fL_dots x1 = (x1 >>> (5 &&& 31)) &&& 255 := by have e2 := congrArg (fun z => z) e_1; exact hg.trans e2
      exact eP_i hC (congrArg Value.int hg) dL_dots_47
    · refine lv_iload_n hC.1 hC.2.1 dL_dots_26 rfl (lv_at hl 0 rfl) ?_
      refine lv_iconst (v := 4) hC.1 hC.2.1 dL_dots_27 (by decide) ?_
      refine lv_ishr hC.1 hC.2.1 dL_dots_28 ?_
      refine lv_iload_n hC.1 hC.2.1 dL_dots_29 rfl (lv_at hl 0 rfl) ?_
      refine lv_bipush (v := 7) hC.1 hC.2.1 dL_dots_30 (by decide +kernel) ?_
      refine lv_ishr hC.1 hC.2.1 dL_dots_32 ?_
      refine lv_iand hC.1 hC.2.1 dL_dots_33 ?_
      refine lv_ldc (v := 16777215) hC.1 hC.2.1 hC.2.2.2.2.1 (hC.2.2.2.2.2.2.1 _ wd_586) dL_dots_34 ?_
      refine lv_iand hC.1 hC.2.1 dL_dots_36 ?_
      refine lv_goto (tgt := 47) hC.1 hC.2.1 dL_dots_37 (by decide) ?_
      have e_2 : fL_dots x1 = ((x1 >>> (4 &&& 31)) &&& (x1 >>> (7 &&& 31))) &&& 16777215 := by delta fL_dots; exact Eq.trans (if_neg k5) (Eq.trans (if_pos k23) rfl)
      have hg : fL_dots x1 = ((x1 >>> (4 &&& 31)) &&& (x1 >>> (7 &&& 31))) &&& 16777215 := by have e2 := congrArg (fun z => z) e_2; exact hg.trans e2
      exact eP_i hC (congrArg Value.int hg) dL_dots_47
  · refine lv_iload_n hC.1 hC.2.1 dL_dots_8 rfl (lv_at hl 0 rfl) ?_
    refine lv_iconst (v := 3) hC.1 hC.2.1 dL_dots_9 (by decide) ?_
    refine lv_ishr hC.1 hC.2.1 dL_dots_10 ?_
    refine lv_ldc (v := 16777215) hC.1 hC.2.1 hC.2.2.2.2.1 (hC.2.2.2.2.2.2.1 _ wd_586) dL_dots_11 ?_
    refine lv_iand hC.1 hC.2.1 dL_dots_13 ?_
    refine lv_goto (tgt := 47) hC.1 hC.2.1 dL_dots_14 (by decide) ?_
    have e_3 : fL_dots x1 = (x1 >>> (3 &&& 31)) &&& 16777215 := by delta fL_dots; exact Eq.trans (if_pos k5) rfl
    have hg : fL_dots x1 = (x1 >>> (3 &&& 31)) &&& 16777215 := by have e2 := congrArg (fun z => z) e_3; exact hg.trans e2
    exact eP_i hC (congrArg Value.int hg) dL_dots_47
