def fL_partOf (v : SV) (x2 : Int32) (x3 : Int32) : Int32 := if (((v 4) 4) / ((v 4) 3)) ≤ 0 then (if ((fL_ones x2) - (fL_ones x2) / 1 * 1) ≤ 0 then (if ((v 4) 5) = 1 then ((fL_ones (x2 &&& ((1 <<< (x3 &&& 31)) - 1))) - (fL_ones (x2 &&& ((1 <<< (x3 &&& 31)) - 1))) / (((fL_ones x2) / 1) + 0) * (((fL_ones x2) / 1) + 0)) else ((fL_ones (x2 &&& ((1 <<< (x3 &&& 31)) - 1))) / 1)) else (if ((v 4) 5) = 1 then ((fL_ones (x2 &&& ((1 <<< (x3 &&& 31)) - 1))) - (fL_ones (x2 &&& ((1 <<< (x3 &&& 31)) - 1))) / (((fL_ones x2) / 1) + 1) * (((fL_ones x2) / 1) + 1)) else ((fL_ones (x2 &&& ((1 <<< (x3 &&& 31)) - 1))) / 1))) else (if ((fL_ones x2) - (fL_ones x2) / (((v 4) 4) / ((v 4) 3)) * (((v 4) 4) / ((v 4) 3))) ≤ 0 then (if ((v 4) 5) = 1 then ((fL_ones (x2 &&& ((1 <<< (x3 &&& 31)) - 1))) - (fL_ones (x2 &&& ((1 <<< (x3 &&& 31)) - 1))) / (((fL_ones x2) / (((v 4) 4) / ((v 4) 3))) + 0) * (((fL_ones x2) / (((v 4) 4) / ((v 4) 3))) + 0)) else ((fL_ones (x2 &&& ((1 <<< (x3 &&& 31)) - 1))) / (((v 4) 4) / ((v 4) 3)))) else (if ((v 4) 5) = 1 then ((fL_ones (x2 &&& ((1 <<< (x3 &&& 31)) - 1))) - (fL_ones (x2 &&& ((1 <<< (x3 &&& 31)) - 1))) / (((fL_ones x2) / (((v 4) 4) / ((v 4) 3))) + 1) * (((fL_ones x2) / (((v 4) 4) / ((v 4) 3))) + 1)) else ((fL_ones (x2 &&& ((1 <<< (x3 &&& 31)) - 1))) / (((v 4) 4) / ((v 4) 3)))))
theorem bit_pos {x y : Int32} (hb : (x >>> (y &&& 31)) &&& 1 = 1) : 1 ≤ cntN (tN x) 32 := by
  by_cases q : x = 0
  · rw [q, Int32.zero_shiftRight, Int32.zero_and] at hb
    exact absurd hb (by decide)
  · have := ones_step q
    omega
theorem pz1 {x y z : Int32} (hm : mny z) (hb : (x >>> (y &&& 31)) &&& 1 = 1) : ¬ fL_ones x / z + 1 = 0 := by
  obtain ⟨m, h1, h2, e⟩ := hm
  have hl := cntN_le' (tN x) 32
  have hd := Nat.div_le_self (cntN (tN x) 32) m
  rw [ones_t, e, pk_div (by omega) (by omega) (by omega), nI_1]
  generalize cntN (tN x) 32 / m = w at hd ⊢
  exact nI_ne0 (by omega) (by omega)
theorem pz0 {x y z : Int32} (hm : mny z) (hb : (x >>> (y &&& 31)) &&& 1 = 1) (k : fL_ones x - fL_ones x / z * z ≤ 0) : ¬ fL_ones x / z + 0 = 0 := by
  obtain ⟨m, h1, h2, e⟩ := hm
  have hl := cntN_le' (tN x) 32
  have hd := Nat.div_le_self (cntN (tN x) 32) m
  have hp := bit_pos hb
  rw [ones_t, e, pk_div (by omega) (by omega) (by omega)] at k ⊢
  intro q
  rw [Int32.add_zero] at q
  rw [q, Int32.zero_mul, Int32.sub_zero] at k
  exact absurd k (nI_nle (by omega) (by omega))
theorem dL_partOf_0 : decode cL_partOf 0 = .ok (.iload_n 1, 1) := by decide +kernel
theorem dL_partOf_1 : decode cL_partOf 1 = .ok (.iconst 1, 1) := by decide +kernel
theorem dL_partOf_2 : decode cL_partOf 2 = .ok (.iload_n 2, 1) := by decide +kernel
theorem dL_partOf_3 : decode cL_partOf 3 = .ok (.ishl, 1) := by decide +kernel
theorem dL_partOf_4 : decode cL_partOf 4 = .ok (.iconst 1, 1) := by decide +kernel
theorem dL_partOf_5 : decode cL_partOf 5 = .ok (.isub, 1) := by decide +kernel
theorem dL_partOf_6 : decode cL_partOf 6 = .ok (.iand, 1) := by decide +kernel
theorem dL_partOf_7 : decode cL_partOf 7 = .ok (.invokestatic 15, 3) := by decide +kernel
theorem dL_partOf_10 : decode cL_partOf 10 = .ok (.istore_n 3, 1) := by decide +kernel
theorem dL_partOf_11 : decode cL_partOf 11 = .ok (.aload_n 0, 1) := by decide +kernel
theorem dL_partOf_12 : decode cL_partOf 12 = .ok (.iconst 4, 1) := by decide +kernel
theorem dL_partOf_13 : decode cL_partOf 13 = .ok (.iaload, 1) := by decide +kernel
theorem dL_partOf_14 : decode cL_partOf 14 = .ok (.aload_n 0, 1) := by decide +kernel
theorem dL_partOf_15 : decode cL_partOf 15 = .ok (.iconst 3, 1) := by decide +kernel
theorem dL_partOf_16 : decode cL_partOf 16 = .ok (.iaload, 1) := by decide +kernel
theorem dL_partOf_17 : decode cL_partOf 17 = .ok (.idiv, 1) := by decide +kernel
theorem dL_partOf_18 : decode cL_partOf 18 = .ok (.ifCond .le 13, 3) := by decide +kernel
theorem dL_partOf_21 : decode cL_partOf 21 = .ok (.aload_n 0, 1) := by decide +kernel
theorem dL_partOf_22 : decode cL_partOf 22 = .ok (.iconst 4, 1) := by decide +kernel
theorem dL_partOf_23 : decode cL_partOf 23 = .ok (.iaload, 1) := by decide +kernel
theorem dL_partOf_24 : decode cL_partOf 24 = .ok (.aload_n 0, 1) := by decide +kernel
theorem dL_partOf_25 : decode cL_partOf 25 = .ok (.iconst 3, 1) := by decide +kernel
theorem dL_partOf_26 : decode cL_partOf 26 = .ok (.iaload, 1) := by decide +kernel
theorem dL_partOf_27 : decode cL_partOf 27 = .ok (.idiv, 1) := by decide +kernel
theorem dL_partOf_28 : decode cL_partOf 28 = .ok (.goto 4, 3) := by decide +kernel
theorem dL_partOf_31 : decode cL_partOf 31 = .ok (.iconst 1, 1) := by decide +kernel
theorem dL_partOf_32 : decode cL_partOf 32 = .ok (.istore 4, 2) := by decide +kernel
theorem dL_partOf_34 : decode cL_partOf 34 = .ok (.iload_n 1, 1) := by decide +kernel
theorem dL_partOf_35 : decode cL_partOf 35 = .ok (.invokestatic 15, 3) := by decide +kernel
theorem dL_partOf_38 : decode cL_partOf 38 = .ok (.iload 4, 2) := by decide +kernel
theorem dL_partOf_40 : decode cL_partOf 40 = .ok (.idiv, 1) := by decide +kernel
theorem dL_partOf_41 : decode cL_partOf 41 = .ok (.iload_n 1, 1) := by decide +kernel
theorem dL_partOf_42 : decode cL_partOf 42 = .ok (.invokestatic 15, 3) := by decide +kernel
theorem dL_partOf_45 : decode cL_partOf 45 = .ok (.iload 4, 2) := by decide +kernel
theorem dL_partOf_47 : decode cL_partOf 47 = .ok (.irem, 1) := by decide +kernel
theorem dL_partOf_48 : decode cL_partOf 48 = .ok (.ifCond .le 7, 3) := by decide +kernel
theorem dL_partOf_51 : decode cL_partOf 51 = .ok (.iconst 1, 1) := by decide +kernel
theorem dL_partOf_52 : decode cL_partOf 52 = .ok (.goto 4, 3) := by decide +kernel
theorem dL_partOf_55 : decode cL_partOf 55 = .ok (.iconst 0, 1) := by decide +kernel
theorem dL_partOf_56 : decode cL_partOf 56 = .ok (.iadd, 1) := by decide +kernel
theorem dL_partOf_57 : decode cL_partOf 57 = .ok (.istore 5, 2) := by decide +kernel
theorem dL_partOf_59 : decode cL_partOf 59 = .ok (.aload_n 0, 1) := by decide +kernel
theorem dL_partOf_60 : decode cL_partOf 60 = .ok (.iconst 5, 1) := by decide +kernel
theorem dL_partOf_61 : decode cL_partOf 61 = .ok (.iaload, 1) := by decide +kernel
theorem dL_partOf_62 : decode cL_partOf 62 = .ok (.iconst 1, 1) := by decide +kernel
theorem dL_partOf_63 : decode cL_partOf 63 = .ok (.if_icmp .ne 10, 3) := by decide +kernel
theorem dL_partOf_66 : decode cL_partOf 66 = .ok (.iload_n 3, 1) := by decide +kernel
theorem dL_partOf_67 : decode cL_partOf 67 = .ok (.iload 5, 2) := by decide +kernel
theorem dL_partOf_69 : decode cL_partOf 69 = .ok (.irem, 1) := by decide +kernel
theorem dL_partOf_70 : decode cL_partOf 70 = .ok (.goto 7, 3) := by decide +kernel
theorem dL_partOf_73 : decode cL_partOf 73 = .ok (.iload_n 3, 1) := by decide +kernel
theorem dL_partOf_74 : decode cL_partOf 74 = .ok (.iload 4, 2) := by decide +kernel
theorem dL_partOf_76 : decode cL_partOf 76 = .ok (.idiv, 1) := by decide +kernel
theorem dL_partOf_77 : decode cL_partOf 77 = .ok (.ireturn, 1) := by decide +kernel
set_option maxHeartbeats 1000000 in
set_option maxRecDepth 100000 in
theorem c_L_partOf (l : Launch) (G : GT) (q : Nat → Nat) (v : SV) (x2 : Int32) (x3 : Int32) (hI : Lgs v) (hb : (x2 >>> (x3 &&& 31)) &&& 1 = 1) : Met l yL_partOf (Cond.code yL_partOf cL_partOf 6 (some .int) :: bigW) ({ frames := 1, cells := 0, slots := 0, locals := 22 }) (BP G [.ref (q 4), .int x2, .int x3] (fun U H => PW G (lwW G q v) H)) (QP (.int (fL_partOf v x2 x3))) 0 0 (fun _ => False) := by
  refine met_of (by decide) (Nat.le_of_ble_eq_true rfl) ?_
  intro p e s m below meth c ls hC hKN hB0 hl
  have hP := hB0
  have hl : lv_has ls 6 [(0, .ref (q 4)), (1, .int x2), (2, .int x3)] := hl
  have hg : fL_partOf v x2 x3 = fL_partOf v x2 x3 := rfl
  refine lv_iload_n hC.1 hC.2.1 dL_partOf_0 rfl (lv_at hl 1 rfl) ?_
  refine lv_iconst (v := 1) hC.1 hC.2.1 dL_partOf_1 (by decide) ?_
  refine lv_iload_n hC.1 hC.2.1 dL_partOf_2 rfl (lv_at hl 2 rfl) ?_
  refine lv_ishl hC.1 hC.2.1 dL_partOf_3 ?_
  refine lv_iconst (v := 1) hC.1 hC.2.1 dL_partOf_4 (by decide) ?_
  refine lv_isub hC.1 hC.2.1 dL_partOf_5 ?_
  refine lv_iand hC.1 hC.2.1 dL_partOf_6 ?_
  refine runP (rS (B := fun U H => True) (As := [.int (x2 &&& ((1 <<< (x3 &&& 31)) - 1))]) (rest := []) hC mwL_ones (c_L_ones l G (x2 &&& ((1 <<< (x3 &&& 31)) - 1))) wd_434 wd_433 ⟨rfl, rfl⟩ ⟨Nat.le_of_ble_eq_true rfl, Nat.le_of_ble_eq_true rfl⟩ (fun _ _ _ _ h => h) hKN trivial rfl hl.1 rfl (Nat.le_of_ble_eq_true rfl) dL_partOf_7 ⟨Nat.zero_le _, Nat.zero_le _⟩) ?_
  refine lv_istore_n (lv' := [(3, .int (fL_ones (x2 &&& ((1 <<< (x3 &&& 31)) - 1)))), (0, .ref (q 4)), (1, .int x2), (2, .int x3)]) hC.1 hC.2.1 dL_partOf_10 rfl hl (by decide) rfl (fun ls hl => ?_)
  refine lv_aload_n hC.1 hC.2.1 dL_partOf_11 rfl (lv_at hl 1 rfl) ?_
  refine lv_iconst (v := 4) hC.1 hC.2.1 dL_partOf_12 (by decide) ?_
  refine iald_k hC hKN hP 4 rfl (n := 21) (f := (v 4)) 4 (rfl) (by omega) (by first | decide | omega) dL_partOf_13 ?_
  refine lv_aload_n hC.1 hC.2.1 dL_partOf_14 rfl (lv_at hl 1 rfl) ?_
  refine lv_iconst (v := 3) hC.1 hC.2.1 dL_partOf_15 (by decide) ?_
  refine iald_k hC hKN hP 4 rfl (n := 21) (f := (v 4)) 3 (rfl) (by omega) (by first | decide | omega) dL_partOf_16 ?_
  refine lv_idiv hC.1 hC.2.1 dL_partOf_17 (LS_3 hI) ?_
  refine lv_if_le (tgt := 31) hC.1 hC.2.1 dL_partOf_18 (by decide) (fun k18 => ?_) (fun k18 => ?_)
  · refine lv_iconst (v := 1) hC.1 hC.2.1 dL_partOf_31 (by decide) ?_
    refine lv_istore (lv' := [(4, .int 1), (3, .int (fL_ones (x2 &&& ((1 <<< (x3 &&& 31)) - 1)))), (0, .ref (q 4)), (1, .int x2), (2, .int x3)]) hC.1 hC.2.1 dL_partOf_32 hl (by decide) rfl (fun ls hl => ?_)
    refine lv_iload_n hC.1 hC.2.1 dL_partOf_34 rfl (lv_at hl 3 rfl) ?_
    refine runP (rS (B := fun U H => True) (As := [.int x2]) (rest := []) hC mwL_ones (c_L_ones l G x2) wd_434 wd_433 ⟨rfl, rfl⟩ ⟨Nat.le_of_ble_eq_true rfl, Nat.le_of_ble_eq_true rfl⟩ (fun _ _ _ _ h => h) hKN trivial rfl hl.1 rfl (Nat.le_of_ble_eq_true rfl) dL_partOf_35 ⟨Nat.zero_le _, Nat.zero_le _⟩) ?_
    refine lv_iload hC.1 hC.2.1 dL_partOf_38 (lv_at hl 0 rfl) ?_
    refine lv_idiv hC.1 hC.2.1 dL_partOf_40 (by first | decide | exact ne_nle k18) ?_
    refine lv_iload_n hC.1 hC.2.1 dL_partOf_41 rfl (lv_at hl 3 rfl) ?_
    refine runP (rS (B := fun U H => True) (As := [.int x2]) (rest := [.int ((fL_ones x2) / 1)]) hC mwL_ones (c_L_ones l G x2) wd_434 wd_433 ⟨rfl, rfl⟩ ⟨Nat.le_of_ble_eq_true rfl, Nat.le_of_ble_eq_true rfl⟩ (fun _ _ _ _ h => h) hKN trivial rfl hl.1 rfl (Nat.le_of_ble_eq_true rfl) dL_partOf_42 ⟨Nat.zero_le _, Nat.zero_le _⟩) ?_
    refine lv_iload hC.1 hC.2.1 dL_partOf_45 (lv_at hl 0 rfl) ?_
    refine lv_irem hC.1 hC.2.1 dL_partOf_47 (by first | decide | exact ne_nle k18) ?_
    refine lv_if_le (tgt := 55) hC.1 hC.2.1 dL_partOf_48 (by decide) (fun k48 => ?_) (fun k48 => ?_)
    · refine lv_iconst (v := 0) hC.1 hC.2.1 dL_partOf_55 (by decide) ?_
      refine lv_iadd hC.1 hC.2.1 dL_partOf_56 ?_
      refine lv_istore (lv' := [(5, .int (((fL_ones x2) / 1) + 0)), (4, .int 1), (3, .int (fL_ones (x2 &&& ((1 <<< (x3 &&& 31)) - 1)))), (0, .ref (q 4)), (1, .int x2), (2, .int x3)]) hC.1 hC.2.1 dL_partOf_57 hl (by decide) rfl (fun ls hl => ?_)
      refine lv_aload_n hC.1 hC.2.1 dL_partOf_59 rfl (lv_at hl 3 rfl) ?_
      refine lv_iconst (v := 5) hC.1 hC.2.1 dL_partOf_60 (by decide) ?_
      refine iald_k hC hKN hP 4 rfl (n := 21) (f := (v 4)) 5 (rfl) (by omega) (by first | decide | omega) dL_partOf_61 ?_
      refine lv_iconst (v := 1) hC.1 hC.2.1 dL_partOf_62 (by decide) ?_
      refine lv_icmp_ne (tgt := 73) hC.1 hC.2.1 dL_partOf_63 (by decide) (fun k63 => ?_) (fun k63 => ?_)
      · refine lv_iload_n hC.1 hC.2.1 dL_partOf_73 rfl (lv_at hl 2 rfl) ?_
        refine lv_iload hC.1 hC.2.1 dL_partOf_74 (lv_at hl 1 rfl) ?_
        refine lv_idiv hC.1 hC.2.1 dL_partOf_76 (by first | decide | exact ne_nle k18) ?_
        have e_1 : fL_partOf v x2 x3 = (fL_ones (x2 &&& ((1 <<< (x3 &&& 31)) - 1))) / 1 := by delta fL_partOf; exact Eq.trans (if_pos k18) (Eq.trans (if_pos k48) (Eq.trans (if_neg k63) rfl))
        have hg : fL_partOf v x2 x3 = (fL_ones (x2 &&& ((1 <<< (x3 &&& 31)) - 1))) / 1 := by have e2 := congrArg (fun z => z) e_1; exact hg.trans e2
        exact eP_i hC (congrArg Value.int hg) dL_partOf_77
      · refine lv_iload_n hC.1 hC.2.1 dL_partOf_66 rfl (lv_at hl 2 rfl) ?_
        refine lv_iload hC.1 hC.2.1 dL_partOf_67 (lv_at hl 0 rfl) ?_
        refine lv_irem hC.1 hC.2.1 dL_partOf_69 (by first | exact pz1 mny_1 hb | exact pz0 mny_1 hb k48 | exact pz1 (mny_q hI k18) hb | exact pz0 (mny_q hI k18) hb k48) ?_
        refine lv_goto (tgt := 77) hC.1 hC.2.1 dL_partOf_70 (by decide) ?_
        have e_2 : fL_partOf v x2 x3 = (fL_ones (x2 &&& ((1 <<< (x3 &&& 31)) - 1))) - (fL_ones (x2 &&& ((1 <<< (x3 &&& 31)) - 1))) / (((fL_ones x2) / 1) + 0) * (((fL_ones x2) / 1) + 0) := by delta fL_partOf; exact Eq.trans (if_pos k18) (Eq.trans (if_pos k48) (Eq.trans (if_pos k63) rfl))
        have hg : fL_partOf v x2 x3 = (fL_ones (x2 &&& ((1 <<< (x3 &&& 31)) - 1))) - (fL_ones (x2 &&& ((1 <<< (x3 &&& 31)) - 1))) / (((fL_ones x2) / 1) + 0) * (((fL_ones x2) / 1) + 0) := by have e2 := congrArg (fun z => z) e_2; exact hg.trans e2
        exact eP_i hC (congrArg Value.int hg) dL_partOf_77
    · refine lv_iconst (v := 1) hC.1 hC.2.1 dL_partOf_51 (by decide) ?_
      refine lv_goto (tgt := 56) hC.1 hC.2.1 dL_partOf_52 (by decide) ?_
      refine lv_iadd hC.1 hC.2.1 dL_partOf_56 ?_
      refine lv_istore (lv' := [(5, .int (((fL_ones x2) / 1) + 1)), (4, .int 1), (3, .int (fL_ones (x2 &&& ((1 <<< (x3 &&& 31)) - 1)))), (0, .ref (q 4)), (1, .int x2), (2, .int x3)]) hC.1 hC.2.1 dL_partOf_57 hl (by decide) rfl (fun ls hl => ?_)
      refine lv_aload_n hC.1 hC.2.1 dL_partOf_59 rfl (lv_at hl 3 rfl) ?_
      refine lv_iconst (v := 5) hC.1 hC.2.1 dL_partOf_60 (by decide) ?_
      refine iald_k hC hKN hP 4 rfl (n := 21) (f := (v 4)) 5 (rfl) (by omega) (by first | decide | omega) dL_partOf_61 ?_
      refine lv_iconst (v := 1) hC.1 hC.2.1 dL_partOf_62 (by decide) ?_
      refine lv_icmp_ne (tgt := 73) hC.1 hC.2.1 dL_partOf_63 (by decide) (fun k63 => ?_) (fun k63 => ?_)
      · refine lv_iload_n hC.1 hC.2.1 dL_partOf_73 rfl (lv_at hl 2 rfl) ?_
        refine lv_iload hC.1 hC.2.1 dL_partOf_74 (lv_at hl 1 rfl) ?_
        refine lv_idiv hC.1 hC.2.1 dL_partOf_76 (by first | decide | exact ne_nle k18) ?_
        have e_3 : fL_partOf v x2 x3 = (fL_ones (x2 &&& ((1 <<< (x3 &&& 31)) - 1))) / 1 := by delta fL_partOf; exact Eq.trans (if_pos k18) (Eq.trans (if_neg k48) (Eq.trans (if_neg k63) rfl))
        have hg : fL_partOf v x2 x3 = (fL_ones (x2 &&& ((1 <<< (x3 &&& 31)) - 1))) / 1 := by have e2 := congrArg (fun z => z) e_3; exact hg.trans e2
        exact eP_i hC (congrArg Value.int hg) dL_partOf_77
      · refine lv_iload_n hC.1 hC.2.1 dL_partOf_66 rfl (lv_at hl 2 rfl) ?_
        refine lv_iload hC.1 hC.2.1 dL_partOf_67 (lv_at hl 0 rfl) ?_
        refine lv_irem hC.1 hC.2.1 dL_partOf_69 (by first | exact pz1 mny_1 hb | exact pz0 mny_1 hb k48 | exact pz1 (mny_q hI k18) hb | exact pz0 (mny_q hI k18) hb k48) ?_
        refine lv_goto (tgt := 77) hC.1 hC.2.1 dL_partOf_70 (by decide) ?_
        have e_4 : fL_partOf v x2 x3 = (fL_ones (x2 &&& ((1 <<< (x3 &&& 31)) - 1))) - (fL_ones (x2 &&& ((1 <<< (x3 &&& 31)) - 1))) / (((fL_ones x2) / 1) + 1) * (((fL_ones x2) / 1) + 1) := by delta fL_partOf; exact Eq.trans (if_pos k18) (Eq.trans (if_neg k48) (Eq.trans (if_pos k63) rfl))
        have hg : fL_partOf v x2 x3 = (fL_ones (x2 &&& ((1 <<< (x3 &&& 31)) - 1))) - (fL_ones (x2 &&& ((1 <<< (x3 &&& 31)) - 1))) / (((fL_ones x2) / 1) + 1) * (((fL_ones x2) / 1) + 1) := by have e2 := congrArg (fun z => z) e_4; exact hg.trans e2
        exact eP_i hC (congrArg Value.int hg) dL_partOf_77
  · refine lv_aload_n hC.1 hC.2.1 dL_partOf_21 rfl (lv_at hl 1 rfl) ?_
    refine lv_iconst (v := 4) hC.1 hC.2.1 dL_partOf_22 (by decide) ?_
    refine iald_k hC hKN hP 4 rfl (n := 21) (f := (v 4)) 4 (rfl) (by omega) (by first | decide | omega) dL_partOf_23 ?_
    refine lv_aload_n hC.1 hC.2.1 dL_partOf_24 rfl (lv_at hl 1 rfl) ?_
    refine lv_iconst (v := 3) hC.1 hC.2.1 dL_partOf_25 (by decide) ?_
    refine iald_k hC hKN hP 4 rfl (n := 21) (f := (v 4)) 3 (rfl) (by omega) (by first | decide | omega) dL_partOf_26 ?_
    refine lv_idiv hC.1 hC.2.1 dL_partOf_27 (LS_3 hI) ?_
    refine lv_goto (tgt := 32) hC.1 hC.2.1 dL_partOf_28 (by decide) ?_
    refine lv_istore (lv' := [(4, .int (((v 4) 4) / ((v 4) 3))), (3, .int (fL_ones (x2 &&& ((1 <<< (x3 &&& 31)) - 1)))), (0, .ref (q 4)), (1, .int x2), (2, .int x3)]) hC.1 hC.2.1 dL_partOf_32 hl (by decide) rfl (fun ls hl => ?_)
    refine lv_iload_n hC.1 hC.2.1 dL_partOf_34 rfl (lv_at hl 3 rfl) ?_
    refine runP (rS (B := fun U H => True) (As := [.int x2]) (rest := []) hC mwL_ones (c_L_ones l G x2) wd_434 wd_433 ⟨rfl, rfl⟩ ⟨Nat.le_of_ble_eq_true rfl, Nat.le_of_ble_eq_true rfl⟩ (fun _ _ _ _ h => h) hKN trivial rfl hl.1 rfl (Nat.le_of_ble_eq_true rfl) dL_partOf_35 ⟨Nat.zero_le _, Nat.zero_le _⟩) ?_
    refine lv_iload hC.1 hC.2.1 dL_partOf_38 (lv_at hl 0 rfl) ?_
    refine lv_idiv hC.1 hC.2.1 dL_partOf_40 (by first | decide | exact ne_nle k18) ?_
    refine lv_iload_n hC.1 hC.2.1 dL_partOf_41 rfl (lv_at hl 3 rfl) ?_
    refine runP (rS (B := fun U H => True) (As := [.int x2]) (rest := [.int ((fL_ones x2) / (((v 4) 4) / ((v 4) 3)))]) hC mwL_ones (c_L_ones l G x2) wd_434 wd_433 ⟨rfl, rfl⟩ ⟨Nat.le_of_ble_eq_true rfl, Nat.le_of_ble_eq_true rfl⟩ (fun _ _ _ _ h => h) hKN trivial rfl hl.1 rfl (Nat.le_of_ble_eq_true rfl) dL_partOf_42 ⟨Nat.zero_le _, Nat.zero_le _⟩) ?_
    refine lv_iload hC.1 hC.2.1 dL_partOf_45 (lv_at hl 0 rfl) ?_
    refine lv_irem hC.1 hC.2.1 dL_partOf_47 (by first | decide | exact ne_nle k18) ?_
    refine lv_if_le (tgt := 55) hC.1 hC.2.1 dL_partOf_48 (by decide) (fun k48 => ?_) (fun k48 => ?_)
    · refine lv_iconst (v := 0) hC.1 hC.2.1 dL_partOf_55 (by decide) ?_
      refine lv_iadd hC.1 hC.2.1 dL_partOf_56 ?_
      refine lv_istore (lv' := [(5, .int (((fL_ones x2) / (((v 4) 4) / ((v 4) 3))) + 0)), (4, .int (((v 4) 4) / ((v 4) 3))), (3, .int (fL_ones (x2 &&& ((1 <<< (x3 &&& 31)) - 1)))), (0, .ref (q 4)), (1, .int x2), (2, .int x3)]) hC.1 hC.2.1 dL_partOf_57 hl (by decide) rfl (fun ls hl => ?_)
      refine lv_aload_n hC.1 hC.2.1 dL_partOf_59 rfl (lv_at hl 3 rfl) ?_
      refine lv_iconst (v := 5) hC.1 hC.2.1 dL_partOf_60 (by decide) ?_
      refine iald_k hC hKN hP 4 rfl (n := 21) (f := (v 4)) 5 (rfl) (by omega) (by first | decide | omega) dL_partOf_61 ?_
      refine lv_iconst (v := 1) hC.1 hC.2.1 dL_partOf_62 (by decide) ?_
      refine lv_icmp_ne (tgt := 73) hC.1 hC.2.1 dL_partOf_63 (by decide) (fun k63 => ?_) (fun k63 => ?_)
      · refine lv_iload_n hC.1 hC.2.1 dL_partOf_73 rfl (lv_at hl 2 rfl) ?_
        refine lv_iload hC.1 hC.2.1 dL_partOf_74 (lv_at hl 1 rfl) ?_
        refine lv_idiv hC.1 hC.2.1 dL_partOf_76 (by first | decide | exact ne_nle k18) ?_
        have e_5 : fL_partOf v x2 x3 = (fL_ones (x2 &&& ((1 <<< (x3 &&& 31)) - 1))) / (((v 4) 4) / ((v 4) 3)) := by delta fL_partOf; exact Eq.trans (if_neg k18) (Eq.trans (if_pos k48) (Eq.trans (if_neg k63) rfl))
        have hg : fL_partOf v x2 x3 = (fL_ones (x2 &&& ((1 <<< (x3 &&& 31)) - 1))) / (((v 4) 4) / ((v 4) 3)) := by have e2 := congrArg (fun z => z) e_5; exact hg.trans e2
        exact eP_i hC (congrArg Value.int hg) dL_partOf_77
      · refine lv_iload_n hC.1 hC.2.1 dL_partOf_66 rfl (lv_at hl 2 rfl) ?_
        refine lv_iload hC.1 hC.2.1 dL_partOf_67 (lv_at hl 0 rfl) ?_
        refine lv_irem hC.1 hC.2.1 dL_partOf_69 (by first | exact pz1 mny_1 hb | exact pz0 mny_1 hb k48 | exact pz1 (mny_q hI k18) hb | exact pz0 (mny_q hI k18) hb k48) ?_
        refine lv_goto (tgt := 77) hC.1 hC.2.1 dL_partOf_70 (by decide) ?_
        have e_6 : fL_partOf v x2 x3 = (fL_ones (x2 &&& ((1 <<< (x3 &&& 31)) - 1))) - (fL_ones (x2 &&& ((1 <<< (x3 &&& 31)) - 1))) / (((fL_ones x2) / (((v 4) 4) / ((v 4) 3))) + 0) * (((fL_ones x2) / (((v 4) 4) / ((v 4) 3))) + 0) := by delta fL_partOf; exact Eq.trans (if_neg k18) (Eq.trans (if_pos k48) (Eq.trans (if_pos k63) rfl))
        have hg : fL_partOf v x2 x3 = (fL_ones (x2 &&& ((1 <<< (x3 &&& 31)) - 1))) - (fL_ones (x2 &&& ((1 <<< (x3 &&& 31)) - 1))) / (((fL_ones x2) / (((v 4) 4) / ((v 4) 3))) + 0) * (((fL_ones x2) / (((v 4) 4) / ((v 4) 3))) + 0) := by have e2 := congrArg (fun z => z) e_6; exact hg.trans e2
        exact eP_i hC (congrArg Value.int hg) dL_partOf_77
    · refine lv_iconst (v := 1) hC.1 hC.2.1 dL_partOf_51 (by decide) ?_
      refine lv_goto (tgt := 56) hC.1 hC.2.1 dL_partOf_52 (by decide) ?_
      refine lv_iadd hC.1 hC.2.1 dL_partOf_56 ?_
      refine lv_istore (lv' := [(5, .int (((fL_ones x2) / (((v 4) 4) / ((v 4) 3))) + 1)), (4, .int (((v 4) 4) / ((v 4) 3))), (3, .int (fL_ones (x2 &&& ((1 <<< (x3 &&& 31)) - 1)))), (0, .ref (q 4)), (1, .int x2), (2, .int x3)]) hC.1 hC.2.1 dL_partOf_57 hl (by decide) rfl (fun ls hl => ?_)
      refine lv_aload_n hC.1 hC.2.1 dL_partOf_59 rfl (lv_at hl 3 rfl) ?_
      refine lv_iconst (v := 5) hC.1 hC.2.1 dL_partOf_60 (by decide) ?_
      refine iald_k hC hKN hP 4 rfl (n := 21) (f := (v 4)) 5 (rfl) (by omega) (by first | decide | omega) dL_partOf_61 ?_
      refine lv_iconst (v := 1) hC.1 hC.2.1 dL_partOf_62 (by decide) ?_
      refine lv_icmp_ne (tgt := 73) hC.1 hC.2.1 dL_partOf_63 (by decide) (fun k63 => ?_) (fun k63 => ?_)
      · refine lv_iload_n hC.1 hC.2.1 dL_partOf_73 rfl (lv_at hl 2 rfl) ?_
        refine lv_iload hC.1 hC.2.1 dL_partOf_74 (lv_at hl 1 rfl) ?_
        refine lv_idiv hC.1 hC.2.1 dL_partOf_76 (by first | decide | exact ne_nle k18) ?_
        have e_7 : fL_partOf v x2 x3 = (fL_ones (x2 &&& ((1 <<< (x3 &&& 31)) - 1))) / (((v 4) 4) / ((v 4) 3)) := by delta fL_partOf; exact Eq.trans (if_neg k18) (Eq.trans (if_neg k48) (Eq.trans (if_neg k63) rfl))
        have hg : fL_partOf v x2 x3 = (fL_ones (x2 &&& ((1 <<< (x3 &&& 31)) - 1))) / (((v 4) 4) / ((v 4) 3)) := by have e2 := congrArg (fun z => z) e_7; exact hg.trans e2
        exact eP_i hC (congrArg Value.int hg) dL_partOf_77
      · refine lv_iload_n hC.1 hC.2.1 dL_partOf_66 rfl (lv_at hl 2 rfl) ?_
        refine lv_iload hC.1 hC.2.1 dL_partOf_67 (lv_at hl 0 rfl) ?_
        refine lv_irem hC.1 hC.2.1 dL_partOf_69 (by first | exact pz1 mny_1 hb | exact pz0 mny_1 hb k48 | exact pz1 (mny_q hI k18) hb | exact pz0 (mny_q hI k18) hb k48) ?_
        refine lv_goto (tgt := 77) hC.1 hC.2.1 dL_partOf_70 (by decide) ?_
        have e_8 : fL_partOf v x2 x3 = (fL_ones (x2 &&& ((1 <<< (x3 &&& 31)) - 1))) - (fL_ones (x2 &&& ((1 <<< (x3 &&& 31)) - 1))) / (((fL_ones x2) / (((v 4) 4) / ((v 4) 3))) + 1) * (((fL_ones x2) / (((v 4) 4) / ((v 4) 3))) + 1) := by delta fL_partOf; exact Eq.trans (if_neg k18) (Eq.trans (if_neg k48) (Eq.trans (if_pos k63) rfl))
        have hg : fL_partOf v x2 x3 = (fL_ones (x2 &&& ((1 <<< (x3 &&& 31)) - 1))) - (fL_ones (x2 &&& ((1 <<< (x3 &&& 31)) - 1))) / (((fL_ones x2) / (((v 4) 4) / ((v 4) 3))) + 1) * (((fL_ones x2) / (((v 4) 4) / ((v 4) 3))) + 1) := by have e2 := congrArg (fun z => z) e_8; exact hg.trans e2
        exact eP_i hC (congrArg Value.int hg) dL_partOf_77
