theorem mwJ0_charAt_5068e : MW yJ0_charAt_5068e cJ0_charAt_5068e 2 (some .char) 1 := ⟨wd_296, wd_17, by decide, by decide, by decide +kernel⟩
theorem iwJ0_charAt_5068e : IW yJ0_charAt_5068e := ⟨wd_294, wd_295⟩
theorem mwJ1_charAt_3b067 : MW yJ1_charAt_3b067 cJ1_charAt_3b067 2 (some .char) 2 := ⟨wd_303, wd_18, by decide, by decide, by decide +kernel⟩
theorem mwJ0_checkIndex_df160 : MW yJ0_checkIndex_df160 cJ0_checkIndex_df160 2 none 2 := ⟨wd_306, wd_17, by decide, by decide, by decide +kernel⟩
theorem mwJ3_checkIndex_8e157 : MW yJ3_checkIndex_8e157 cJ3_checkIndex_8e157 3 (some .int) 3 := ⟨wd_311, wd_19, by decide, by decide, by decide +kernel⟩
theorem mwJ0_length_8abf5 : MW yJ0_length_8abf5 cJ0_length_8abf5 1 (some .int) 0 := ⟨wd_286, wd_17, by decide, by decide, by decide +kernel⟩
theorem iwJ0_length_8abf5 : IW yJ0_length_8abf5 := ⟨wd_284, wd_285⟩
theorem mwJ0_isLatin1_aae02 : MW yJ0_isLatin1_aae02 cJ0_isLatin1_aae02 1 (some .boolean) 0 := ⟨wd_300, wd_17, by decide, by decide, by decide +kernel⟩
theorem iwJ0_isLatin1_aae02 : IW yJ0_isLatin1_aae02 := ⟨wd_298, wd_299⟩
theorem mwJ0_coder_7d493 : MW yJ0_coder_7d493 cJ0_coder_7d493 1 (some .byte) 0 := ⟨wd_290, wd_17, by decide, by decide, by decide +kernel⟩
theorem iwJ0_coder_7d493 : IW yJ0_coder_7d493 := ⟨wd_288, wd_289⟩
def fJ0_coder_7d493 (w : Nat) : Int32 := 0
def fJ0_isLatin1_aae02 (w : Nat) : Int32 := 1
def fJ0_length_8abf5 (w : Nat) : Int32 := (nI (wLen.getD w 0)) >>> ((fJ0_coder_7d493 w) &&& 31)
def fJ3_checkIndex_8e157 (x1 : Int32) (x2 : Int32) : Int32 := x1
def fJ0_checkIndex_df160 (x1 : Int32) (x2 : Int32) : Unit := ()
def fJ1_charAt_3b067 (w1 : Nat) (x2 : Int32) : Int32 := (Int32.toUInt32 (((wByt.getD w1 []).getD x2.toNatClampNeg 0) &&& 255) % 65536).toInt32
def fJ0_charAt_5068e (w : Nat) (x1 : Int32) : Int32 := fJ1_charAt_3b067 w x1
theorem charAt_nar (w : Nat) (x : Int32) : narrow .char (.int (fJ1_charAt_3b067 w x)) = .int (fJ1_charAt_3b067 w x) := pk_nc _
theorem dJ0_coder_7d493_0 : decode cJ0_coder_7d493 0 = .ok (.getstatic 38, 3) := by decide +kernel
theorem dJ0_coder_7d493_3 : decode cJ0_coder_7d493 3 = .ok (.ifCond .eq 10, 3) := by decide +kernel
theorem dJ0_coder_7d493_6 : decode cJ0_coder_7d493 6 = .ok (.aload_n 0, 1) := by decide +kernel
theorem dJ0_coder_7d493_7 : decode cJ0_coder_7d493 7 = .ok (.getfield 15, 3) := by decide +kernel
theorem dJ0_coder_7d493_10 : decode cJ0_coder_7d493 10 = .ok (.goto 4, 3) := by decide +kernel
theorem dJ0_coder_7d493_13 : decode cJ0_coder_7d493 13 = .ok (.iconst 1, 1) := by decide +kernel
theorem dJ0_coder_7d493_14 : decode cJ0_coder_7d493 14 = .ok (.ireturn, 1) := by decide +kernel
set_option maxHeartbeats 1000000 in
set_option maxRecDepth 100000 in
theorem c_J0_coder_7d493 (l : Launch) (G : GT) (w : Nat) (hw : w < 8) : Met l yJ0_coder_7d493 (Cond.code yJ0_coder_7d493 cJ0_coder_7d493 1 (some .byte) :: bigW) ({ frames := 0, cells := 0, slots := 0, locals := 0 }) (BP G [.ref (gA G (10 + w))] (fun U H => True)) (QP (.int (fJ0_coder_7d493 w))) 0 0 (fun _ => False) := by
  refine met_of (by decide) (Nat.le_of_ble_eq_true rfl) ?_
  intro p e s m below meth c ls hC hKN hB0 hl
  have hl : lv_has ls 1 [(0, .ref (gA G (10 + w)))] := hl
  have hg : fJ0_coder_7d493 w = fJ0_coder_7d493 w := rfl
  refine gs hC hKN.compact wd_291 dJ0_coder_7d493_0 ?_
  refine lv_if_eq (tgt := 13) hC.1 hC.2.1 dJ0_coder_7d493_3 (by decide) (fun k3 => ?_) (fun k3 => ?_)
  · exact absurd k3 (by decide)
  · refine lv_aload_n hC.1 hC.2.1 dJ0_coder_7d493_6 rfl (lv_at hl 0 rfl) ?_
    refine st_coder hC hKN hw wd_1254 dJ0_coder_7d493_7 ?_
    refine lv_goto (tgt := 14) hC.1 hC.2.1 dJ0_coder_7d493_10 (by decide) ?_
    have e_1 : fJ0_coder_7d493 w = 0 := by delta fJ0_coder_7d493; exact rfl
    have hg : fJ0_coder_7d493 w = 0 := by have e2 := congrArg (fun z => z) e_1; exact hg.trans e2
    exact eP_n hC (congrArg Value.int hg) rfl dJ0_coder_7d493_14

theorem dJ0_isLatin1_aae02_0 : decode cJ0_isLatin1_aae02 0 = .ok (.getstatic 38, 3) := by decide +kernel
theorem dJ0_isLatin1_aae02_3 : decode cJ0_isLatin1_aae02 3 = .ok (.ifCond .eq 14, 3) := by decide +kernel
theorem dJ0_isLatin1_aae02_6 : decode cJ0_isLatin1_aae02 6 = .ok (.aload_n 0, 1) := by decide +kernel
theorem dJ0_isLatin1_aae02_7 : decode cJ0_isLatin1_aae02 7 = .ok (.getfield 15, 3) := by decide +kernel
theorem dJ0_isLatin1_aae02_10 : decode cJ0_isLatin1_aae02 10 = .ok (.ifCond .ne 7, 3) := by decide +kernel
theorem dJ0_isLatin1_aae02_13 : decode cJ0_isLatin1_aae02 13 = .ok (.iconst 1, 1) := by decide +kernel
theorem dJ0_isLatin1_aae02_14 : decode cJ0_isLatin1_aae02 14 = .ok (.goto 4, 3) := by decide +kernel
theorem dJ0_isLatin1_aae02_17 : decode cJ0_isLatin1_aae02 17 = .ok (.iconst 0, 1) := by decide +kernel
theorem dJ0_isLatin1_aae02_18 : decode cJ0_isLatin1_aae02 18 = .ok (.ireturn, 1) := by decide +kernel
set_option maxHeartbeats 1000000 in
set_option maxRecDepth 100000 in
theorem c_J0_isLatin1_aae02 (l : Launch) (G : GT) (w : Nat) (hw : w < 8) : Met l yJ0_isLatin1_aae02 (Cond.code yJ0_isLatin1_aae02 cJ0_isLatin1_aae02 1 (some .boolean) :: bigW) ({ frames := 0, cells := 0, slots := 0, locals := 0 }) (BP G [.ref (gA G (10 + w))] (fun U H => True)) (QP (.int (fJ0_isLatin1_aae02 w))) 0 0 (fun _ => False) := by
  refine met_of (by decide) (Nat.le_of_ble_eq_true rfl) ?_
  intro p e s m below meth c ls hC hKN hB0 hl
  have hl : lv_has ls 1 [(0, .ref (gA G (10 + w)))] := hl
  have hg : fJ0_isLatin1_aae02 w = fJ0_isLatin1_aae02 w := rfl
  refine gs hC hKN.compact wd_291 dJ0_isLatin1_aae02_0 ?_
  refine lv_if_eq (tgt := 17) hC.1 hC.2.1 dJ0_isLatin1_aae02_3 (by decide) (fun k3 => ?_) (fun k3 => ?_)
  · exact absurd k3 (by decide)
  · refine lv_aload_n hC.1 hC.2.1 dJ0_isLatin1_aae02_6 rfl (lv_at hl 0 rfl) ?_
    refine st_coder hC hKN hw wd_1254 dJ0_isLatin1_aae02_7 ?_
    refine lv_if_ne (tgt := 17) hC.1 hC.2.1 dJ0_isLatin1_aae02_10 (by decide) (fun k10 => ?_) (fun k10 => ?_)
    · exact absurd (by decide) k10
    · refine lv_iconst (v := 1) hC.1 hC.2.1 dJ0_isLatin1_aae02_13 (by decide) ?_
      refine lv_goto (tgt := 18) hC.1 hC.2.1 dJ0_isLatin1_aae02_14 (by decide) ?_
      have e_1 : fJ0_isLatin1_aae02 w = 1 := by delta fJ0_isLatin1_aae02; exact rfl
      have hg : fJ0_isLatin1_aae02 w = 1 := by have e2 := congrArg (fun z => z) e_1; exact hg.trans e2
      exact eP_z hC (congrArg Value.int hg) rfl dJ0_isLatin1_aae02_18

theorem dJ0_length_8abf5_0 : decode cJ0_length_8abf5 0 = .ok (.aload_n 0, 1) := by decide +kernel
theorem dJ0_length_8abf5_1 : decode cJ0_length_8abf5 1 = .ok (.getfield 9, 3) := by decide +kernel
theorem dJ0_length_8abf5_4 : decode cJ0_length_8abf5 4 = .ok (.arraylength, 1) := by decide +kernel
theorem dJ0_length_8abf5_5 : decode cJ0_length_8abf5 5 = .ok (.aload_n 0, 1) := by decide +kernel
theorem dJ0_length_8abf5_6 : decode cJ0_length_8abf5 6 = .ok (.invokevirtual 335, 3) := by decide +kernel
theorem dJ0_length_8abf5_9 : decode cJ0_length_8abf5 9 = .ok (.ishr, 1) := by decide +kernel
theorem dJ0_length_8abf5_10 : decode cJ0_length_8abf5 10 = .ok (.ireturn, 1) := by decide +kernel
set_option maxHeartbeats 1000000 in
set_option maxRecDepth 100000 in
theorem c_J0_length_8abf5 (l : Launch) (G : GT) (w : Nat) (hw : w < 8) : Met l yJ0_length_8abf5 (Cond.code yJ0_length_8abf5 cJ0_length_8abf5 1 (some .int) :: bigW) ({ frames := 1, cells := 0, slots := 0, locals := 20 }) (BP G [.ref (gA G (10 + w))] (fun U H => True)) (QP (.int (fJ0_length_8abf5 w))) 0 0 (fun _ => False) := by
  refine met_of (by decide) (Nat.le_of_ble_eq_true rfl) ?_
  intro p e s m below meth c ls hC hKN hB0 hl
  have hl : lv_has ls 1 [(0, .ref (gA G (10 + w)))] := hl
  have hg : fJ0_length_8abf5 w = fJ0_length_8abf5 w := rfl
  refine lv_aload_n hC.1 hC.2.1 dJ0_length_8abf5_0 rfl (lv_at hl 0 rfl) ?_
  refine st_value hC hKN hw wd_1253 dJ0_length_8abf5_1 ?_
  refine st_len hC hKN hw dJ0_length_8abf5_4 ?_
  refine lv_aload_n hC.1 hC.2.1 dJ0_length_8abf5_5 rfl (lv_at hl 0 rfl) ?_
  refine runP (rV (B := fun U H => True) (As := []) (rest := [.int (nI (wLen.getD w 0))]) hC mwJ0_coder_7d493 (c_J0_coder_7d493 l G w hw) iwJ0_coder_7d493 wd_287 ⟨rfl, rfl⟩ ⟨Nat.le_of_ble_eq_true rfl, Nat.le_of_ble_eq_true rfl⟩ (fun _ _ _ _ h => h) hKN trivial (hKN.strRecv hw) rfl hl.1 rfl (Nat.le_of_ble_eq_true rfl) dJ0_length_8abf5_6 ⟨Nat.zero_le _, Nat.zero_le _⟩) ?_
  refine lv_ishr hC.1 hC.2.1 dJ0_length_8abf5_9 ?_
  have e_1 : fJ0_length_8abf5 w = (nI (wLen.getD w 0)) >>> ((fJ0_coder_7d493 w) &&& 31) := by delta fJ0_length_8abf5; exact rfl
  have hg : fJ0_length_8abf5 w = (nI (wLen.getD w 0)) >>> ((fJ0_coder_7d493 w) &&& 31) := by have e2 := congrArg (fun z => z) e_1; exact hg.trans e2
  exact eP_i hC (congrArg Value.int hg) dJ0_length_8abf5_10

theorem dJ3_checkIndex_8e157_0 : decode cJ3_checkIndex_8e157 0 = .ok (.iload_n 0, 1) := by decide +kernel
theorem dJ3_checkIndex_8e157_1 : decode cJ3_checkIndex_8e157 1 = .ok (.ifCond .lt 8, 3) := by decide +kernel
theorem dJ3_checkIndex_8e157_4 : decode cJ3_checkIndex_8e157 4 = .ok (.iload_n 0, 1) := by decide +kernel
theorem dJ3_checkIndex_8e157_5 : decode cJ3_checkIndex_8e157 5 = .ok (.iload_n 1, 1) := by decide +kernel
theorem dJ3_checkIndex_8e157_6 : decode cJ3_checkIndex_8e157 6 = .ok (.if_icmp .lt 10, 3) := by decide +kernel
theorem dJ3_checkIndex_8e157_9 : decode cJ3_checkIndex_8e157 9 = .ok (.aload_n 2, 1) := by decide +kernel
theorem dJ3_checkIndex_8e157_10 : decode cJ3_checkIndex_8e157 10 = .ok (.iload_n 0, 1) := by decide +kernel
theorem dJ3_checkIndex_8e157_11 : decode cJ3_checkIndex_8e157 11 = .ok (.iload_n 1, 1) := by decide +kernel
theorem dJ3_checkIndex_8e157_12 : decode cJ3_checkIndex_8e157 12 = .ok (.invokestatic 95, 3) := by decide +kernel
theorem dJ3_checkIndex_8e157_15 : decode cJ3_checkIndex_8e157 15 = .ok (.athrow, 1) := by decide +kernel
theorem dJ3_checkIndex_8e157_16 : decode cJ3_checkIndex_8e157 16 = .ok (.iload_n 0, 1) := by decide +kernel
theorem dJ3_checkIndex_8e157_17 : decode cJ3_checkIndex_8e157 17 = .ok (.ireturn, 1) := by decide +kernel
set_option maxHeartbeats 1000000 in
set_option maxRecDepth 100000 in
theorem c_J3_checkIndex_8e157 (l : Launch) (G : GT) (x1 : Int32) (x2 : Int32) (v3 : Value) (hv : v3 = .null ∨ ∃ t, v3 = .ref t) (h0 : ¬ x1 < 0) (h1 : x1 < x2) : Met l yJ3_checkIndex_8e157 (Cond.code yJ3_checkIndex_8e157 cJ3_checkIndex_8e157 3 (some .int) :: bigW) ({ frames := 0, cells := 0, slots := 0, locals := 0 }) (BP G [.int x1, .int x2, v3] (fun U H => True)) (QP (.int (fJ3_checkIndex_8e157 x1 x2))) 0 0 (fun _ => False) := by
  refine met_of (by decide) (by rcases hv with rfl | ⟨t, rfl⟩ <;> exact Nat.le_of_ble_eq_true rfl) ?_
  intro p e s m below meth c ls hC hKN hB0 hl
  have hl : lv_has ls 3 [(0, .int x1), (1, .int x2), (2, v3)] := hl
  have hg : fJ3_checkIndex_8e157 x1 x2 = fJ3_checkIndex_8e157 x1 x2 := rfl
  refine lv_iload_n hC.1 hC.2.1 dJ3_checkIndex_8e157_0 rfl (lv_at hl 0 rfl) ?_
  refine lv_if_lt (tgt := 9) hC.1 hC.2.1 dJ3_checkIndex_8e157_1 (by decide) (fun k1 => ?_) (fun k1 => ?_)
  · exact absurd k1 h0
  · refine lv_iload_n hC.1 hC.2.1 dJ3_checkIndex_8e157_4 rfl (lv_at hl 0 rfl) ?_
    refine lv_iload_n hC.1 hC.2.1 dJ3_checkIndex_8e157_5 rfl (lv_at hl 1 rfl) ?_
    refine lv_icmp_lt (tgt := 16) hC.1 hC.2.1 dJ3_checkIndex_8e157_6 (by decide) (fun k6 => ?_) (fun k6 => ?_)
    · refine lv_iload_n hC.1 hC.2.1 dJ3_checkIndex_8e157_16 rfl (lv_at hl 0 rfl) ?_
      have e_1 : fJ3_checkIndex_8e157 x1 x2 = x1 := by delta fJ3_checkIndex_8e157; exact rfl
      have hg : fJ3_checkIndex_8e157 x1 x2 = x1 := by have e2 := congrArg (fun z => z) e_1; exact hg.trans e2
      exact eP_i hC (congrArg Value.int hg) dJ3_checkIndex_8e157_17
    · exact absurd h1 k6

theorem dJ0_checkIndex_df160_0 : decode cJ0_checkIndex_df160 0 = .ok (.iload_n 0, 1) := by decide +kernel
theorem dJ0_checkIndex_df160_1 : decode cJ0_checkIndex_df160 1 = .ok (.iload_n 1, 1) := by decide +kernel
theorem dJ0_checkIndex_df160_2 : decode cJ0_checkIndex_df160 2 = .ok (.getstatic 1053, 3) := by decide +kernel
theorem dJ0_checkIndex_df160_5 : decode cJ0_checkIndex_df160 5 = .ok (.invokestatic 1059, 3) := by decide +kernel
theorem dJ0_checkIndex_df160_8 : decode cJ0_checkIndex_df160 8 = .ok (.pop, 1) := by decide +kernel
theorem dJ0_checkIndex_df160_9 : decode cJ0_checkIndex_df160 9 = .ok (.return_, 1) := by decide +kernel
set_option maxHeartbeats 1000000 in
set_option maxRecDepth 100000 in
theorem c_J0_checkIndex_df160 (l : Launch) (G : GT) (x1 : Int32) (x2 : Int32) (h0 : ¬ x1 < 0) (h1 : x1 < x2) : Met l yJ0_checkIndex_df160 (Cond.code yJ0_checkIndex_df160 cJ0_checkIndex_df160 2 none :: bigW) ({ frames := 1, cells := 0, slots := 0, locals := 22 }) (BP G [.int x1, .int x2] (fun U H => True)) (QP0) 0 0 (fun _ => False) := by
  refine met_of (by decide) (Nat.le_of_ble_eq_true rfl) ?_
  intro p e s m below meth c ls hC hKN hB0 hl
  have hl : lv_has ls 2 [(0, .int x1), (1, .int x2)] := hl
  have hg : fJ0_checkIndex_df160 x1 x2 = fJ0_checkIndex_df160 x1 x2 := rfl
  refine lv_iload_n hC.1 hC.2.1 dJ0_checkIndex_df160_0 rfl (lv_at hl 0 rfl) ?_
  refine lv_iload_n hC.1 hC.2.1 dJ0_checkIndex_df160_1 rfl (lv_at hl 1 rfl) ?_
  refine gsQ hC hKN.sio wd_307 dJ0_checkIndex_df160_2 (fun v_1 hv_1 => ?_)
  refine runP (rS (B := fun U H => True) (As := [.int x1, .int x2, v_1]) (rest := []) hC mwJ3_checkIndex_8e157 (c_J3_checkIndex_8e157 l G x1 x2 v_1 hv_1 h0 h1) wd_310 wd_309 ⟨rfl, rfl⟩ ⟨Nat.le_of_ble_eq_true rfl, Nat.le_of_ble_eq_true rfl⟩ (fun _ _ _ _ h => h) hKN trivial rfl hl.1 rfl (Nat.le_of_ble_eq_true rfl) dJ0_checkIndex_df160_5 ⟨Nat.zero_le _, Nat.zero_le _⟩) ?_
  refine lv_pop hC.1 hC.2.1 dJ0_checkIndex_df160_8 rfl ?_
  have e_2 : fJ0_checkIndex_df160 x1 x2 = () := by delta fJ0_checkIndex_df160; exact rfl
  have hg : fJ0_checkIndex_df160 x1 x2 = () := by have e2 := congrArg (fun z => z) e_2; exact hg.trans e2
  exact eP_v hC dJ0_checkIndex_df160_9

theorem dJ1_charAt_3b067_0 : decode cJ1_charAt_3b067 0 = .ok (.iload_n 1, 1) := by decide +kernel
theorem dJ1_charAt_3b067_1 : decode cJ1_charAt_3b067 1 = .ok (.aload_n 0, 1) := by decide +kernel
theorem dJ1_charAt_3b067_2 : decode cJ1_charAt_3b067 2 = .ok (.arraylength, 1) := by decide +kernel
theorem dJ1_charAt_3b067_3 : decode cJ1_charAt_3b067 3 = .ok (.invokestatic 9, 3) := by decide +kernel
theorem dJ1_charAt_3b067_6 : decode cJ1_charAt_3b067 6 = .ok (.aload_n 0, 1) := by decide +kernel
theorem dJ1_charAt_3b067_7 : decode cJ1_charAt_3b067 7 = .ok (.iload_n 1, 1) := by decide +kernel
theorem dJ1_charAt_3b067_8 : decode cJ1_charAt_3b067 8 = .ok (.baload, 1) := by decide +kernel
theorem dJ1_charAt_3b067_9 : decode cJ1_charAt_3b067 9 = .ok (.sipush 255, 3) := by decide +kernel
theorem dJ1_charAt_3b067_12 : decode cJ1_charAt_3b067 12 = .ok (.iand, 1) := by decide +kernel
theorem dJ1_charAt_3b067_13 : decode cJ1_charAt_3b067 13 = .ok (.i2c, 1) := by decide +kernel
theorem dJ1_charAt_3b067_14 : decode cJ1_charAt_3b067 14 = .ok (.ireturn, 1) := by decide +kernel
set_option maxHeartbeats 1000000 in
set_option maxRecDepth 100000 in
theorem c_J1_charAt_3b067 (l : Launch) (G : GT) (w1 : Nat) (x2 : Int32) (hw : w1 < 8) (h0 : ¬ x2 < 0) (h1 : x2 < nI (wLen.getD w1 0)) : Met l yJ1_charAt_3b067 (Cond.code yJ1_charAt_3b067 cJ1_charAt_3b067 2 (some .char) :: bigW) ({ frames := 2, cells := 0, slots := 0, locals := 43 }) (BP G [.ref (gA G (20 + w1)), .int x2] (fun U H => True)) (QP (.int (fJ1_charAt_3b067 w1 x2))) 0 0 (fun _ => False) := by
  refine met_of (by decide) (Nat.le_of_ble_eq_true rfl) ?_
  intro p e s m below meth c ls hC hKN hB0 hl
  have hl : lv_has ls 2 [(0, .ref (gA G (20 + w1))), (1, .int x2)] := hl
  have hg : fJ1_charAt_3b067 w1 x2 = fJ1_charAt_3b067 w1 x2 := rfl
  refine lv_iload_n hC.1 hC.2.1 dJ1_charAt_3b067_0 rfl (lv_at hl 1 rfl) ?_
  refine lv_aload_n hC.1 hC.2.1 dJ1_charAt_3b067_1 rfl (lv_at hl 0 rfl) ?_
  refine st_len hC hKN hw dJ1_charAt_3b067_2 ?_
  refine runP0 (rS (B := fun U H => True) (As := [.int x2, .int (nI (wLen.getD w1 0))]) (rest := []) hC mwJ0_checkIndex_df160 (c_J0_checkIndex_df160 l G x2 (nI (wLen.getD w1 0)) h0 h1) wd_305 wd_304 ⟨rfl, rfl⟩ ⟨Nat.le_of_ble_eq_true rfl, Nat.le_of_ble_eq_true rfl⟩ (fun _ _ _ _ h => h) hKN trivial rfl hl.1 rfl (Nat.le_of_ble_eq_true rfl) dJ1_charAt_3b067_3 ⟨Nat.zero_le _, Nat.zero_le _⟩) ?_
  refine lv_aload_n hC.1 hC.2.1 dJ1_charAt_3b067_6 rfl (lv_at hl 0 rfl) ?_
  refine lv_iload_n hC.1 hC.2.1 dJ1_charAt_3b067_7 rfl (lv_at hl 1 rfl) ?_
  refine st_ld hC hKN hw (vp_path h0 (Int32.not_le.mpr h1)) dJ1_charAt_3b067_8 ?_
  refine lv_sipush (v := 255) hC.1 hC.2.1 dJ1_charAt_3b067_9 (by decide +kernel) ?_
  refine lv_iand hC.1 hC.2.1 dJ1_charAt_3b067_12 ?_
  refine lv_i2c (v := (Int32.toUInt32 (((wByt.getD w1 []).getD x2.toNatClampNeg 0) &&& 255) % 65536).toInt32) hC.1 hC.2.1 dJ1_charAt_3b067_13 rfl ?_
  have e_1 : fJ1_charAt_3b067 w1 x2 = (Int32.toUInt32 (((wByt.getD w1 []).getD x2.toNatClampNeg 0) &&& 255) % 65536).toInt32 := by delta fJ1_charAt_3b067; exact rfl
  have hg : fJ1_charAt_3b067 w1 x2 = (Int32.toUInt32 (((wByt.getD w1 []).getD x2.toNatClampNeg 0) &&& 255) % 65536).toInt32 := by have e2 := congrArg (fun z => z) e_1; exact hg.trans e2
  exact eP_n hC (congrArg Value.int hg) (pk_nc _) dJ1_charAt_3b067_14

theorem dJ0_charAt_5068e_0 : decode cJ0_charAt_5068e 0 = .ok (.aload_n 0, 1) := by decide +kernel
theorem dJ0_charAt_5068e_1 : decode cJ0_charAt_5068e 1 = .ok (.invokevirtual 492, 3) := by decide +kernel
theorem dJ0_charAt_5068e_4 : decode cJ0_charAt_5068e 4 = .ok (.ifCond .eq 12, 3) := by decide +kernel
theorem dJ0_charAt_5068e_7 : decode cJ0_charAt_5068e 7 = .ok (.aload_n 0, 1) := by decide +kernel
theorem dJ0_charAt_5068e_8 : decode cJ0_charAt_5068e 8 = .ok (.getfield 9, 3) := by decide +kernel
theorem dJ0_charAt_5068e_11 : decode cJ0_charAt_5068e 11 = .ok (.iload_n 1, 1) := by decide +kernel
theorem dJ0_charAt_5068e_12 : decode cJ0_charAt_5068e 12 = .ok (.invokestatic 495, 3) := by decide +kernel
theorem dJ0_charAt_5068e_15 : decode cJ0_charAt_5068e 15 = .ok (.ireturn, 1) := by decide +kernel
theorem dJ0_charAt_5068e_16 : decode cJ0_charAt_5068e 16 = .ok (.aload_n 0, 1) := by decide +kernel
theorem dJ0_charAt_5068e_17 : decode cJ0_charAt_5068e 17 = .ok (.getfield 9, 3) := by decide +kernel
theorem dJ0_charAt_5068e_20 : decode cJ0_charAt_5068e 20 = .ok (.iload_n 1, 1) := by decide +kernel
theorem dJ0_charAt_5068e_21 : decode cJ0_charAt_5068e 21 = .ok (.invokestatic 498, 3) := by decide +kernel
theorem dJ0_charAt_5068e_24 : decode cJ0_charAt_5068e 24 = .ok (.ireturn, 1) := by decide +kernel
set_option maxHeartbeats 1000000 in
set_option maxRecDepth 100000 in
theorem c_J0_charAt_5068e (l : Launch) (G : GT) (w : Nat) (x1 : Int32) (hw : w < 8) (h0 : ¬ x1 < 0) (h1 : x1 < nI (wLen.getD w 0)) : Met l yJ0_charAt_5068e (Cond.code yJ0_charAt_5068e cJ0_charAt_5068e 2 (some .char) :: bigW) ({ frames := 3, cells := 0, slots := 0, locals := 64 }) (BP G [.ref (gA G (10 + w)), .int x1] (fun U H => True)) (QP (.int (fJ0_charAt_5068e w x1))) 0 0 (fun _ => False) := by
  refine met_of (by decide) (Nat.le_of_ble_eq_true rfl) ?_
  intro p e s m below meth c ls hC hKN hB0 hl
  have hl : lv_has ls 2 [(0, .ref (gA G (10 + w))), (1, .int x1)] := hl
  have hg : fJ0_charAt_5068e w x1 = fJ0_charAt_5068e w x1 := rfl
  refine lv_aload_n hC.1 hC.2.1 dJ0_charAt_5068e_0 rfl (lv_at hl 0 rfl) ?_
  refine runP (rV (B := fun U H => True) (As := []) (rest := []) hC mwJ0_isLatin1_aae02 (c_J0_isLatin1_aae02 l G w hw) iwJ0_isLatin1_aae02 wd_297 ⟨rfl, rfl⟩ ⟨Nat.le_of_ble_eq_true rfl, Nat.le_of_ble_eq_true rfl⟩ (fun _ _ _ _ h => h) hKN trivial (hKN.strRecv hw) rfl hl.1 rfl (Nat.le_of_ble_eq_true rfl) dJ0_charAt_5068e_1 ⟨Nat.zero_le _, Nat.zero_le _⟩) ?_
  refine lv_if_eq (tgt := 16) hC.1 hC.2.1 dJ0_charAt_5068e_4 (by decide) (fun k4 => ?_) (fun k4 => ?_)
  · exact absurd k4 (show ¬ (1 : Int32) = 0 by decide)
  · refine lv_aload_n hC.1 hC.2.1 dJ0_charAt_5068e_7 rfl (lv_at hl 0 rfl) ?_
    refine st_value hC hKN hw wd_1253 dJ0_charAt_5068e_8 ?_
    refine lv_iload_n hC.1 hC.2.1 dJ0_charAt_5068e_11 rfl (lv_at hl 1 rfl) ?_
    refine runP (rS (B := fun U H => True) (As := [.ref (gA G (20 + w)), .int x1]) (rest := []) hC mwJ1_charAt_3b067 (c_J1_charAt_3b067 l G w x1 hw h0 h1) wd_302 wd_301 ⟨rfl, rfl⟩ ⟨Nat.le_of_ble_eq_true rfl, Nat.le_of_ble_eq_true rfl⟩ (fun _ _ _ _ h => h) hKN trivial rfl hl.1 rfl (Nat.le_of_ble_eq_true rfl) dJ0_charAt_5068e_12 ⟨Nat.zero_le _, Nat.zero_le _⟩) ?_
    have e_1 : fJ0_charAt_5068e w x1 = fJ1_charAt_3b067 w x1 := by delta fJ0_charAt_5068e; exact rfl
    have hg : fJ0_charAt_5068e w x1 = fJ1_charAt_3b067 w x1 := by have e2 := congrArg (fun z => z) e_1; exact hg.trans e2
    exact eP_n hC (congrArg Value.int hg) (charAt_nar _ _) dJ0_charAt_5068e_15
