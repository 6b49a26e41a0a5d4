def fX5_savedAt (x : HV) (x1 : Nat) : Unit := ()
def fX5_dropOldest (x : HV) : HV := mkH (x 0) (x 1) (x 2) (x 4) (x 5) (x 6) (x 7) (x 8) (x 3) (x 9 0) (x 9 1) (6 - 1) (x 9 2 1) (x 9 2 2)
theorem dX5_savedAt_0 : decode cX5_savedAt 0 = .ok (.iload_n 1, 1) := by decide +kernel
theorem dX5_savedAt_1 : decode cX5_savedAt 1 = .ok (.ifCond .lt 21, 3) := by decide +kernel
theorem dX5_savedAt_4 : decode cX5_savedAt 4 = .ok (.iload_n 1, 1) := by decide +kernel
theorem dX5_savedAt_5 : decode cX5_savedAt 5 = .ok (.aload_n 0, 1) := by decide +kernel
theorem dX5_savedAt_6 : decode cX5_savedAt 6 = .ok (.getfield 22, 3) := by decide +kernel
theorem dX5_savedAt_9 : decode cX5_savedAt 9 = .ok (.arraylength, 1) := by decide +kernel
theorem dX5_savedAt_10 : decode cX5_savedAt 10 = .ok (.if_icmp .ge 12, 3) := by decide +kernel
theorem dX5_savedAt_13 : decode cX5_savedAt 13 = .ok (.aload_n 0, 1) := by decide +kernel
theorem dX5_savedAt_14 : decode cX5_savedAt 14 = .ok (.getfield 22, 3) := by decide +kernel
theorem dX5_savedAt_17 : decode cX5_savedAt 17 = .ok (.iload_n 1, 1) := by decide +kernel
theorem dX5_savedAt_18 : decode cX5_savedAt 18 = .ok (.aaload, 1) := by decide +kernel
theorem dX5_savedAt_19 : decode cX5_savedAt 19 = .ok (.goto 4, 3) := by decide +kernel
theorem dX5_savedAt_22 : decode cX5_savedAt 22 = .ok (.aconst_null, 1) := by decide +kernel
theorem dX5_savedAt_23 : decode cX5_savedAt 23 = .ok (.areturn, 1) := by decide +kernel
set_option maxHeartbeats 1000000 in
set_option maxRecDepth 100000 in
theorem c_X5_savedAt (l : Launch) (G : GT) (a : Nat → Nat) (b : Nat → Nat) (x : HV) (x1 : Nat) (hk : x1 < 6) : Met l yX5_savedAt (Cond.code yX5_savedAt cX5_savedAt 2 (some (.object "HeadDots$State")) :: bigW) ({ frames := 0, cells := 0, slots := 0, locals := 0 }) (BP G [.ref (a 0), .int (nI x1)] (fun U H => PW G (hdW G a b x) H)) (QP (.ref (b (11 * x1)))) 0 0 (fun _ => False) := by
  refine met_of (by decide) (Nat.le_of_ble_eq_true rfl) ?_
  intro p e s m below meth c ls hC hKN hB0 hl
  have hP := hB0
  have hl : lv_has ls 2 [(0, .ref (a 0)), (1, .int (nI x1))] := hl
  have hg : fX5_savedAt x x1 = fX5_savedAt x x1 := rfl
  refine lv_iload_n hC.1 hC.2.1 dX5_savedAt_0 rfl (lv_at hl 1 rfl) ?_
  refine lv_if_lt (tgt := 22) hC.1 hC.2.1 dX5_savedAt_1 (by decide) (fun k1 => ?_) (fun k1 => ?_)
  · exact absurd k1 (nI_nlt (b := 0) (Nat.zero_le _) (by omega))
  · refine lv_iload_n hC.1 hC.2.1 dX5_savedAt_4 rfl (lv_at hl 1 rfl) ?_
    refine lv_aload_n hC.1 hC.2.1 dX5_savedAt_5 rfl (lv_at hl 0 rfl) ?_
    refine gf (v := .ref (a 1)) hC fwX5 hKN hP 0 rfl rfl 3 (by decide) rfl wd_192 rfl dX5_savedAt_6 ?_
    refine sv_len (f := hdF b) (x := x) hC hKN hP dX5_savedAt_9 ?_
    refine lv_icmp_ge (tgt := 22) hC.1 hC.2.1 dX5_savedAt_10 (by decide) (fun k10 => ?_) (fun k10 => ?_)
    · exact absurd k10 (nI_ge (b := 6) (by omega) (by omega))
    · refine lv_aload_n hC.1 hC.2.1 dX5_savedAt_13 rfl (lv_at hl 0 rfl) ?_
      refine gf (v := .ref (a 1)) hC fwX5 hKN hP 0 rfl rfl 3 (by decide) rfl wd_192 rfl dX5_savedAt_14 ?_
      refine lv_iload_n hC.1 hC.2.1 dX5_savedAt_17 rfl (lv_at hl 1 rfl) ?_
      refine sv_ld (f := hdF b) (x := x) (q := b (11 * x1)) hC hKN hP x1 hk (rfl) rfl dX5_savedAt_18 ?_
      refine lv_goto (tgt := 23) hC.1 hC.2.1 dX5_savedAt_19 (by decide) ?_
      exact eP_a hC rfl dX5_savedAt_23

theorem dX5_dropOldest_0 : decode cX5_dropOldest 0 = .ok (.aload_n 0, 1) := by decide +kernel
theorem dX5_dropOldest_1 : decode cX5_dropOldest 1 = .ok (.iconst 0, 1) := by decide +kernel
theorem dX5_dropOldest_2 : decode cX5_dropOldest 2 = .ok (.invokevirtual 181, 3) := by decide +kernel
theorem dX5_dropOldest_5 : decode cX5_dropOldest 5 = .ok (.astore_n 1, 1) := by decide +kernel
theorem dX5_dropOldest_6 : decode cX5_dropOldest 6 = .ok (.iconst 1, 1) := by decide +kernel
theorem dX5_dropOldest_7 : decode cX5_dropOldest 7 = .ok (.istore_n 2, 1) := by decide +kernel
theorem dX5_dropOldest_8 : decode cX5_dropOldest 8 = .ok (.iload_n 2, 1) := by decide +kernel
theorem dX5_dropOldest_9 : decode cX5_dropOldest 9 = .ok (.aload_n 0, 1) := by decide +kernel
theorem dX5_dropOldest_10 : decode cX5_dropOldest 10 = .ok (.getfield 22, 3) := by decide +kernel
theorem dX5_dropOldest_13 : decode cX5_dropOldest 13 = .ok (.arraylength, 1) := by decide +kernel
theorem dX5_dropOldest_14 : decode cX5_dropOldest 14 = .ok (.if_icmp .ge 23, 3) := by decide +kernel
theorem dX5_dropOldest_17 : decode cX5_dropOldest 17 = .ok (.aload_n 0, 1) := by decide +kernel
theorem dX5_dropOldest_18 : decode cX5_dropOldest 18 = .ok (.getfield 22, 3) := by decide +kernel
theorem dX5_dropOldest_21 : decode cX5_dropOldest 21 = .ok (.iload_n 2, 1) := by decide +kernel
theorem dX5_dropOldest_22 : decode cX5_dropOldest 22 = .ok (.iconst 1, 1) := by decide +kernel
theorem dX5_dropOldest_23 : decode cX5_dropOldest 23 = .ok (.isub, 1) := by decide +kernel
theorem dX5_dropOldest_24 : decode cX5_dropOldest 24 = .ok (.aload_n 0, 1) := by decide +kernel
theorem dX5_dropOldest_25 : decode cX5_dropOldest 25 = .ok (.getfield 22, 3) := by decide +kernel
theorem dX5_dropOldest_28 : decode cX5_dropOldest 28 = .ok (.iload_n 2, 1) := by decide +kernel
theorem dX5_dropOldest_29 : decode cX5_dropOldest 29 = .ok (.aaload, 1) := by decide +kernel
theorem dX5_dropOldest_30 : decode cX5_dropOldest 30 = .ok (.aastore, 1) := by decide +kernel
theorem dX5_dropOldest_31 : decode cX5_dropOldest 31 = .ok (.iinc 2 1, 3) := by decide +kernel
theorem dX5_dropOldest_34 : decode cX5_dropOldest 34 = .ok (.goto (-26), 3) := by decide +kernel
theorem dX5_dropOldest_37 : decode cX5_dropOldest 37 = .ok (.aload_n 0, 1) := by decide +kernel
theorem dX5_dropOldest_38 : decode cX5_dropOldest 38 = .ok (.getfield 22, 3) := by decide +kernel
theorem dX5_dropOldest_41 : decode cX5_dropOldest 41 = .ok (.arraylength, 1) := by decide +kernel
theorem dX5_dropOldest_42 : decode cX5_dropOldest 42 = .ok (.ifCond .le 27, 3) := by decide +kernel
theorem dX5_dropOldest_45 : decode cX5_dropOldest 45 = .ok (.aload_n 0, 1) := by decide +kernel
theorem dX5_dropOldest_46 : decode cX5_dropOldest 46 = .ok (.getfield 22, 3) := by decide +kernel
theorem dX5_dropOldest_49 : decode cX5_dropOldest 49 = .ok (.aload_n 0, 1) := by decide +kernel
theorem dX5_dropOldest_50 : decode cX5_dropOldest 50 = .ok (.getfield 22, 3) := by decide +kernel
theorem dX5_dropOldest_53 : decode cX5_dropOldest 53 = .ok (.arraylength, 1) := by decide +kernel
theorem dX5_dropOldest_54 : decode cX5_dropOldest 54 = .ok (.iconst 1, 1) := by decide +kernel
theorem dX5_dropOldest_55 : decode cX5_dropOldest 55 = .ok (.isub, 1) := by decide +kernel
theorem dX5_dropOldest_56 : decode cX5_dropOldest 56 = .ok (.aload_n 1, 1) := by decide +kernel
theorem dX5_dropOldest_57 : decode cX5_dropOldest 57 = .ok (.aastore, 1) := by decide +kernel
theorem dX5_dropOldest_58 : decode cX5_dropOldest 58 = .ok (.aload_n 0, 1) := by decide +kernel
theorem dX5_dropOldest_59 : decode cX5_dropOldest 59 = .ok (.aload_n 0, 1) := by decide +kernel
theorem dX5_dropOldest_60 : decode cX5_dropOldest 60 = .ok (.getfield 22, 3) := by decide +kernel
theorem dX5_dropOldest_63 : decode cX5_dropOldest 63 = .ok (.arraylength, 1) := by decide +kernel
theorem dX5_dropOldest_64 : decode cX5_dropOldest 64 = .ok (.iconst 1, 1) := by decide +kernel
theorem dX5_dropOldest_65 : decode cX5_dropOldest 65 = .ok (.isub, 1) := by decide +kernel
theorem dX5_dropOldest_66 : decode cX5_dropOldest 66 = .ok (.putfield 40, 3) := by decide +kernel
theorem dX5_dropOldest_69 : decode cX5_dropOldest 69 = .ok (.return_, 1) := by decide +kernel
set_option maxHeartbeats 1000000 in
set_option maxRecDepth 100000 in
theorem c_X5_dropOldest (l : Launch) (G : GT) (a : Nat → Nat) (b0 : Nat → Nat) (x : HV) (hq : hdD G a b0) : Met l yX5_dropOldest (Cond.code yX5_dropOldest cX5_dropOldest 3 none :: bigW) ({ frames := 1, cells := 0, slots := 0, locals := 21 }) (BP G [.ref (a 0)] (fun U H => PW G (hdW G a b0 x) H)) (QE (none) (fun H => ∃ b', hdR G a b0 b' ∧ PW G (hdW G a b' (fX5_dropOldest x)) H) (hdA a b0)) 0 0 (hdA a b0) := by
  refine met_of (by decide) (Nat.le_of_ble_eq_true rfl) ?_
  intro p e s m below meth c ls hC hKN hB0 hl
  have hP := hB0
  have hl : lv_has ls 3 [(0, .ref (a 0))] := hl
  have hS : va_S (hdA a b0) s.heap s.heap [] := va_S.rf
  have hAL : ∀ z, (hdA a b0) z → gL G ≤ z := hdD_low hq
  obtain ⟨b, hbe⟩ : ∃ b, b = b0 := ⟨_, rfl⟩
  rw [← hbe] at hP
  have hq0 := hq
  rw [← hbe] at hq
  have hAb : ∀ z, hdA a b z → hdA a b0 z := by rw [hbe]; exact fun _ h => h
  have hg : fX5_dropOldest x = fX5_dropOldest x := rfl
  refine lv_aload_n hC.1 hC.2.1 dX5_dropOldest_0 rfl (lv_at hl 0 rfl) ?_
  refine lv_iconst (v := 0) hC.1 hC.2.1 dX5_dropOldest_1 (by decide) ?_
  refine runP (rV (B := fun U H => PW G (hdW G a b x) H) (As := [.int 0]) (rest := []) hC mwX5_savedAt (c_X5_savedAt l G a b x 0 (by decide)) iwX5_savedAt wd_610 ⟨rfl, rfl⟩ ⟨Nat.le_of_ble_eq_true rfl, Nat.le_of_ble_eq_true rfl⟩ (stb_h (fun H => PW G (hdW G a b x) H)) hKN hP (va_recv hKN.k hP (ci := 5) (q0 := 0) rfl rfl) rfl hl.1 rfl (Nat.le_of_ble_eq_true rfl) dX5_dropOldest_2 ⟨Nat.zero_le _, Nat.zero_le _⟩) ?_
  refine lv_astore_n (lv' := [(1, .ref (b (11 * 0))), (0, .ref (a 0))]) hC.1 hC.2.1 dX5_dropOldest_5 rfl hl (by decide) rfl (fun ls hl => ?_)
  refine lv_iconst (v := 1) hC.1 hC.2.1 dX5_dropOldest_6 (by decide) ?_
  refine lv_istore_n (lv' := [(2, .int 1), (1, .ref (b (11 * 0))), (0, .ref (a 0))]) hC.1 hC.2.1 dX5_dropOldest_7 rfl hl (by decide) rfl (fun ls hl => ?_)
  refine lv_iload_n hC.1 hC.2.1 dX5_dropOldest_8 rfl (lv_at hl 0 rfl) ?_
  refine lv_aload_n hC.1 hC.2.1 dX5_dropOldest_9 rfl (lv_at hl 2 rfl) ?_
  refine gf (v := .ref (a 1)) hC fwX5 hKN hP 0 rfl rfl 3 (by decide) rfl wd_192 rfl dX5_dropOldest_10 ?_
  refine sv_len (f := hdF b) (x := x) hC hKN hP dX5_dropOldest_13 ?_
  refine lv_icmp_ge (tgt := 37) hC.1 hC.2.1 dX5_dropOldest_14 (by decide) (fun k14 => ?_) (fun k14 => ?_)
  · exact absurd k14 (by decide)
  · refine lv_aload_n hC.1 hC.2.1 dX5_dropOldest_17 rfl (lv_at hl 2 rfl) ?_
    refine gf (v := .ref (a 1)) hC fwX5 hKN hP 0 rfl rfl 3 (by decide) rfl wd_192 rfl dX5_dropOldest_18 ?_
    refine lv_iload_n hC.1 hC.2.1 dX5_dropOldest_21 rfl (lv_at hl 0 rfl) ?_
    refine lv_iconst (v := 1) hC.1 hC.2.1 dX5_dropOldest_22 (by decide) ?_
    refine lv_isub hC.1 hC.2.1 dX5_dropOldest_23 ?_
    refine lv_aload_n hC.1 hC.2.1 dX5_dropOldest_24 rfl (lv_at hl 2 rfl) ?_
    refine gf (v := .ref (a 1)) hC fwX5 hKN hP 0 rfl rfl 3 (by decide) rfl wd_192 rfl dX5_dropOldest_25 ?_
    refine lv_iload_n hC.1 hC.2.1 dX5_dropOldest_28 rfl (lv_at hl 0 rfl) ?_
    refine sv_ld (f := hdF b) (x := x) (q := b (11 * 1)) hC hKN hP 1 (by decide) (rfl) rfl dX5_dropOldest_29 ?_
    refine sv_st (f := hdF b) (x := x) hC hKN hP hq hAb hS (1 - 1) (by decide) (nE_sub (rfl) (rfl) (by omega)) 1 (by decide) dX5_dropOldest_30 (fun H locs hq_1 hS => ?_)
    have hP : PW G (hdX G a b (va_up (hdF b) (1 - 1) (some (b (11 * 1)))) x) H := hq_1
    refine lv_iinc (v := 2) (lv' := [(2, .int 2), (1, .ref (b (11 * 0))), (0, .ref (a 0))]) hC.1 hC.2.1 dX5_dropOldest_31 hl (k := 0) rfl (by decide) (by decide) rfl (fun ls hl => ?_)
    refine lv_goto (tgt := 8) hC.1 hC.2.1 dX5_dropOldest_34 (by decide) ?_
    refine lv_iload_n hC.1 hC.2.1 dX5_dropOldest_8 rfl (lv_at hl 0 rfl) ?_
    refine lv_aload_n hC.1 hC.2.1 dX5_dropOldest_9 rfl (lv_at hl 2 rfl) ?_
    refine gf (v := .ref (a 1)) hC fwX5 (hKN.go hAL hS) hP 0 rfl rfl 3 (by decide) rfl wd_192 rfl dX5_dropOldest_10 ?_
    refine sv_len (f := va_up (hdF b) (1 - 1) (some (b (11 * 1)))) (x := x) hC (hKN.go hAL hS) hP dX5_dropOldest_13 ?_
    refine lv_icmp_ge (tgt := 37) hC.1 hC.2.1 dX5_dropOldest_14 (by decide) (fun k14 => ?_) (fun k14 => ?_)
    · exact absurd k14 (by decide)
    · refine lv_aload_n hC.1 hC.2.1 dX5_dropOldest_17 rfl (lv_at hl 2 rfl) ?_
      refine gf (v := .ref (a 1)) hC fwX5 (hKN.go hAL hS) hP 0 rfl rfl 3 (by decide) rfl wd_192 rfl dX5_dropOldest_18 ?_
      refine lv_iload_n hC.1 hC.2.1 dX5_dropOldest_21 rfl (lv_at hl 0 rfl) ?_
      refine lv_iconst (v := 1) hC.1 hC.2.1 dX5_dropOldest_22 (by decide) ?_
      refine lv_isub hC.1 hC.2.1 dX5_dropOldest_23 ?_
      refine lv_aload_n hC.1 hC.2.1 dX5_dropOldest_24 rfl (lv_at hl 2 rfl) ?_
      refine gf (v := .ref (a 1)) hC fwX5 (hKN.go hAL hS) hP 0 rfl rfl 3 (by decide) rfl wd_192 rfl dX5_dropOldest_25 ?_
      refine lv_iload_n hC.1 hC.2.1 dX5_dropOldest_28 rfl (lv_at hl 0 rfl) ?_
      refine sv_ld (f := va_up (hdF b) (1 - 1) (some (b (11 * 1)))) (x := x) (q := b (11 * 2)) hC (hKN.go hAL hS) hP 2 (by decide) (rfl) rfl dX5_dropOldest_29 ?_
      refine sv_st (f := va_up (hdF b) (1 - 1) (some (b (11 * 1)))) (x := x) hC (hKN.go hAL hS) hP hq hAb hS (2 - 1) (by decide) (nE_sub (rfl) (rfl) (by omega)) 2 (by decide) dX5_dropOldest_30 (fun H locs hq_2 hS => ?_)
      have hP : PW G (hdX G a b (va_up (va_up (hdF b) (1 - 1) (some (b (11 * 1)))) (2 - 1) (some (b (11 * 2)))) x) H := hq_2
      refine lv_iinc (v := 3) (lv' := [(2, .int 3), (1, .ref (b (11 * 0))), (0, .ref (a 0))]) hC.1 hC.2.1 dX5_dropOldest_31 hl (k := 0) rfl (by decide) (by decide) rfl (fun ls hl => ?_)
      refine lv_goto (tgt := 8) hC.1 hC.2.1 dX5_dropOldest_34 (by decide) ?_
      refine lv_iload_n hC.1 hC.2.1 dX5_dropOldest_8 rfl (lv_at hl 0 rfl) ?_
      refine lv_aload_n hC.1 hC.2.1 dX5_dropOldest_9 rfl (lv_at hl 2 rfl) ?_
      refine gf (v := .ref (a 1)) hC fwX5 (hKN.go hAL hS) hP 0 rfl rfl 3 (by decide) rfl wd_192 rfl dX5_dropOldest_10 ?_
      refine sv_len (f := va_up (va_up (hdF b) (1 - 1) (some (b (11 * 1)))) (2 - 1) (some (b (11 * 2)))) (x := x) hC (hKN.go hAL hS) hP dX5_dropOldest_13 ?_
      refine lv_icmp_ge (tgt := 37) hC.1 hC.2.1 dX5_dropOldest_14 (by decide) (fun k14 => ?_) (fun k14 => ?_)
      · exact absurd k14 (by decide)
      · refine lv_aload_n hC.1 hC.2.1 dX5_dropOldest_17 rfl (lv_at hl 2 rfl) ?_
        refine gf (v := .ref (a 1)) hC fwX5 (hKN.go hAL hS) hP 0 rfl rfl 3 (by decide) rfl wd_192 rfl dX5_dropOldest_18 ?_
        refine lv_iload_n hC.1 hC.2.1 dX5_dropOldest_21 rfl (lv_at hl 0 rfl) ?_
        refine lv_iconst (v := 1) hC.1 hC.2.1 dX5_dropOldest_22 (by decide) ?_
        refine lv_isub hC.1 hC.2.1 dX5_dropOldest_23 ?_
        refine lv_aload_n hC.1 hC.2.1 dX5_dropOldest_24 rfl (lv_at hl 2 rfl) ?_
        refine gf (v := .ref (a 1)) hC fwX5 (hKN.go hAL hS) hP 0 rfl rfl 3 (by decide) rfl wd_192 rfl dX5_dropOldest_25 ?_
        refine lv_iload_n hC.1 hC.2.1 dX5_dropOldest_28 rfl (lv_at hl 0 rfl) ?_
        refine sv_ld (f := va_up (va_up (hdF b) (1 - 1) (some (b (11 * 1)))) (2 - 1) (some (b (11 * 2)))) (x := x) (q := b (11 * 3)) hC (hKN.go hAL hS) hP 3 (by decide) (rfl) rfl dX5_dropOldest_29 ?_
        refine sv_st (f := va_up (va_up (hdF b) (1 - 1) (some (b (11 * 1)))) (2 - 1) (some (b (11 * 2)))) (x := x) hC (hKN.go hAL hS) hP hq hAb hS (3 - 1) (by decide) (nE_sub (rfl) (rfl) (by omega)) 3 (by decide) dX5_dropOldest_30 (fun H locs hq_3 hS => ?_)
        have hP : PW G (hdX G a b (va_up (va_up (va_up (hdF b) (1 - 1) (some (b (11 * 1)))) (2 - 1) (some (b (11 * 2)))) (3 - 1) (some (b (11 * 3)))) x) H := hq_3
        refine lv_iinc (v := 4) (lv' := [(2, .int 4), (1, .ref (b (11 * 0))), (0, .ref (a 0))]) hC.1 hC.2.1 dX5_dropOldest_31 hl (k := 0) rfl (by decide) (by decide) rfl (fun ls hl => ?_)
        refine lv_goto (tgt := 8) hC.1 hC.2.1 dX5_dropOldest_34 (by decide) ?_
        refine lv_iload_n hC.1 hC.2.1 dX5_dropOldest_8 rfl (lv_at hl 0 rfl) ?_
        refine lv_aload_n hC.1 hC.2.1 dX5_dropOldest_9 rfl (lv_at hl 2 rfl) ?_
        refine gf (v := .ref (a 1)) hC fwX5 (hKN.go hAL hS) hP 0 rfl rfl 3 (by decide) rfl wd_192 rfl dX5_dropOldest_10 ?_
        refine sv_len (f := va_up (va_up (va_up (hdF b) (1 - 1) (some (b (11 * 1)))) (2 - 1) (some (b (11 * 2)))) (3 - 1) (some (b (11 * 3)))) (x := x) hC (hKN.go hAL hS) hP dX5_dropOldest_13 ?_
        refine lv_icmp_ge (tgt := 37) hC.1 hC.2.1 dX5_dropOldest_14 (by decide) (fun k14 => ?_) (fun k14 => ?_)
        · exact absurd k14 (by decide)
        · refine lv_aload_n hC.1 hC.2.1 dX5_dropOldest_17 rfl (lv_at hl 2 rfl) ?_
          refine gf (v := .ref (a 1)) hC fwX5 (hKN.go hAL hS) hP 0 rfl rfl 3 (by decide) rfl wd_192 rfl dX5_dropOldest_18 ?_
          refine lv_iload_n hC.1 hC.2.1 dX5_dropOldest_21 rfl (lv_at hl 0 rfl) ?_
          refine lv_iconst (v := 1) hC.1 hC.2.1 dX5_dropOldest_22 (by decide) ?_
          refine lv_isub hC.1 hC.2.1 dX5_dropOldest_23 ?_
          refine lv_aload_n hC.1 hC.2.1 dX5_dropOldest_24 rfl (lv_at hl 2 rfl) ?_
          refine gf (v := .ref (a 1)) hC fwX5 (hKN.go hAL hS) hP 0 rfl rfl 3 (by decide) rfl wd_192 rfl dX5_dropOldest_25 ?_
          refine lv_iload_n hC.1 hC.2.1 dX5_dropOldest_28 rfl (lv_at hl 0 rfl) ?_
          refine sv_ld (f := va_up (va_up (va_up (hdF b) (1 - 1) (some (b (11 * 1)))) (2 - 1) (some (b (11 * 2)))) (3 - 1) (some (b (11 * 3)))) (x := x) (q := b (11 * 4)) hC (hKN.go hAL hS) hP 4 (by decide) (rfl) rfl dX5_dropOldest_29 ?_
          refine sv_st (f := va_up (va_up (va_up (hdF b) (1 - 1) (some (b (11 * 1)))) (2 - 1) (some (b (11 * 2)))) (3 - 1) (some (b (11 * 3)))) (x := x) hC (hKN.go hAL hS) hP hq hAb hS (4 - 1) (by decide) (nE_sub (rfl) (rfl) (by omega)) 4 (by decide) dX5_dropOldest_30 (fun H locs hq_4 hS => ?_)
          have hP : PW G (hdX G a b (va_up (va_up (va_up (va_up (hdF b) (1 - 1) (some (b (11 * 1)))) (2 - 1) (some (b (11 * 2)))) (3 - 1) (some (b (11 * 3)))) (4 - 1) (some (b (11 * 4)))) x) H := hq_4
          refine lv_iinc (v := 5) (lv' := [(2, .int 5), (1, .ref (b (11 * 0))), (0, .ref (a 0))]) hC.1 hC.2.1 dX5_dropOldest_31 hl (k := 0) rfl (by decide) (by decide) rfl (fun ls hl => ?_)
          refine lv_goto (tgt := 8) hC.1 hC.2.1 dX5_dropOldest_34 (by decide) ?_
          refine lv_iload_n hC.1 hC.2.1 dX5_dropOldest_8 rfl (lv_at hl 0 rfl) ?_
          refine lv_aload_n hC.1 hC.2.1 dX5_dropOldest_9 rfl (lv_at hl 2 rfl) ?_
          refine gf (v := .ref (a 1)) hC fwX5 (hKN.go hAL hS) hP 0 rfl rfl 3 (by decide) rfl wd_192 rfl dX5_dropOldest_10 ?_
          refine sv_len (f := va_up (va_up (va_up (va_up (hdF b) (1 - 1) (some (b (11 * 1)))) (2 - 1) (some (b (11 * 2)))) (3 - 1) (some (b (11 * 3)))) (4 - 1) (some (b (11 * 4)))) (x := x) hC (hKN.go hAL hS) hP dX5_dropOldest_13 ?_
          refine lv_icmp_ge (tgt := 37) hC.1 hC.2.1 dX5_dropOldest_14 (by decide) (fun k14 => ?_) (fun k14 => ?_)
          · exact absurd k14 (by decide)
          · refine lv_aload_n hC.1 hC.2.1 dX5_dropOldest_17 rfl (lv_at hl 2 rfl) ?_
            refine gf (v := .ref (a 1)) hC fwX5 (hKN.go hAL hS) hP 0 rfl rfl 3 (by decide) rfl wd_192 rfl dX5_dropOldest_18 ?_
            refine lv_iload_n hC.1 hC.2.1 dX5_dropOldest_21 rfl (lv_at hl 0 rfl) ?_
            refine lv_iconst (v := 1) hC.1 hC.2.1 dX5_dropOldest_22 (by decide) ?_
            refine lv_isub hC.1 hC.2.1 dX5_dropOldest_23 ?_
            refine lv_aload_n hC.1 hC.2.1 dX5_dropOldest_24 rfl (lv_at hl 2 rfl) ?_
            refine gf (v := .ref (a 1)) hC fwX5 (hKN.go hAL hS) hP 0 rfl rfl 3 (by decide) rfl wd_192 rfl dX5_dropOldest_25 ?_
            refine lv_iload_n hC.1 hC.2.1 dX5_dropOldest_28 rfl (lv_at hl 0 rfl) ?_
            refine sv_ld (f := va_up (va_up (va_up (va_up (hdF b) (1 - 1) (some (b (11 * 1)))) (2 - 1) (some (b (11 * 2)))) (3 - 1) (some (b (11 * 3)))) (4 - 1) (some (b (11 * 4)))) (x := x) (q := b (11 * 5)) hC (hKN.go hAL hS) hP 5 (by decide) (rfl) rfl dX5_dropOldest_29 ?_
            refine sv_st (f := va_up (va_up (va_up (va_up (hdF b) (1 - 1) (some (b (11 * 1)))) (2 - 1) (some (b (11 * 2)))) (3 - 1) (some (b (11 * 3)))) (4 - 1) (some (b (11 * 4)))) (x := x) hC (hKN.go hAL hS) hP hq hAb hS (5 - 1) (by decide) (nE_sub (rfl) (rfl) (by omega)) 5 (by decide) dX5_dropOldest_30 (fun H locs hq_5 hS => ?_)
            have hP : PW G (hdX G a b (va_up (va_up (va_up (va_up (va_up (hdF b) (1 - 1) (some (b (11 * 1)))) (2 - 1) (some (b (11 * 2)))) (3 - 1) (some (b (11 * 3)))) (4 - 1) (some (b (11 * 4)))) (5 - 1) (some (b (11 * 5)))) x) H := hq_5
            refine lv_iinc (v := 6) (lv' := [(2, .int 6), (1, .ref (b (11 * 0))), (0, .ref (a 0))]) hC.1 hC.2.1 dX5_dropOldest_31 hl (k := 0) rfl (by decide) (by decide) rfl (fun ls hl => ?_)
            refine lv_goto (tgt := 8) hC.1 hC.2.1 dX5_dropOldest_34 (by decide) ?_
            refine lv_iload_n hC.1 hC.2.1 dX5_dropOldest_8 rfl (lv_at hl 0 rfl) ?_
            refine lv_aload_n hC.1 hC.2.1 dX5_dropOldest_9 rfl (lv_at hl 2 rfl) ?_
            refine gf (v := .ref (a 1)) hC fwX5 (hKN.go hAL hS) hP 0 rfl rfl 3 (by decide) rfl wd_192 rfl dX5_dropOldest_10 ?_
            refine sv_len (f := va_up (va_up (va_up (va_up (va_up (hdF b) (1 - 1) (some (b (11 * 1)))) (2 - 1) (some (b (11 * 2)))) (3 - 1) (some (b (11 * 3)))) (4 - 1) (some (b (11 * 4)))) (5 - 1) (some (b (11 * 5)))) (x := x) hC (hKN.go hAL hS) hP dX5_dropOldest_13 ?_
            refine lv_icmp_ge (tgt := 37) hC.1 hC.2.1 dX5_dropOldest_14 (by decide) (fun k14 => ?_) (fun k14 => ?_)
            · refine lv_aload_n hC.1 hC.2.1 dX5_dropOldest_37 rfl (lv_at hl 2 rfl) ?_
              refine gf (v := .ref (a 1)) hC fwX5 (hKN.go hAL hS) hP 0 rfl rfl 3 (by decide) rfl wd_192 rfl dX5_dropOldest_38 ?_
              refine sv_len (f := va_up (va_up (va_up (va_up (va_up (hdF b) (1 - 1) (some (b (11 * 1)))) (2 - 1) (some (b (11 * 2)))) (3 - 1) (some (b (11 * 3)))) (4 - 1) (some (b (11 * 4)))) (5 - 1) (some (b (11 * 5)))) (x := x) hC (hKN.go hAL hS) hP dX5_dropOldest_41 ?_
              refine lv_if_le (tgt := 69) hC.1 hC.2.1 dX5_dropOldest_42 (by decide) (fun k42 => ?_) (fun k42 => ?_)
              · exact absurd k42 (by decide)
              · refine lv_aload_n hC.1 hC.2.1 dX5_dropOldest_45 rfl (lv_at hl 2 rfl) ?_
                refine gf (v := .ref (a 1)) hC fwX5 (hKN.go hAL hS) hP 0 rfl rfl 3 (by decide) rfl wd_192 rfl dX5_dropOldest_46 ?_
                refine lv_aload_n hC.1 hC.2.1 dX5_dropOldest_49 rfl (lv_at hl 2 rfl) ?_
                refine gf (v := .ref (a 1)) hC fwX5 (hKN.go hAL hS) hP 0 rfl rfl 3 (by decide) rfl wd_192 rfl dX5_dropOldest_50 ?_
                refine sv_len (f := va_up (va_up (va_up (va_up (va_up (hdF b) (1 - 1) (some (b (11 * 1)))) (2 - 1) (some (b (11 * 2)))) (3 - 1) (some (b (11 * 3)))) (4 - 1) (some (b (11 * 4)))) (5 - 1) (some (b (11 * 5)))) (x := x) hC (hKN.go hAL hS) hP dX5_dropOldest_53 ?_
                refine lv_iconst (v := 1) hC.1 hC.2.1 dX5_dropOldest_54 (by decide) ?_
                refine lv_isub hC.1 hC.2.1 dX5_dropOldest_55 ?_
                refine lv_aload_n hC.1 hC.2.1 dX5_dropOldest_56 rfl (lv_at hl 1 rfl) ?_
                refine sv_st (f := va_up (va_up (va_up (va_up (va_up (hdF b) (1 - 1) (some (b (11 * 1)))) (2 - 1) (some (b (11 * 2)))) (3 - 1) (some (b (11 * 3)))) (4 - 1) (some (b (11 * 4)))) (5 - 1) (some (b (11 * 5)))) (x := x) hC (hKN.go hAL hS) hP hq hAb hS (6 - 1) (by decide) (nE_sub (rfl) (rfl) (by omega)) 0 (by decide) dX5_dropOldest_57 (fun H locs hq_6 hS => ?_)
                have hP : PW G (hdX G a b (va_up (va_up (va_up (va_up (va_up (va_up (hdF b) (1 - 1) (some (b (11 * 1)))) (2 - 1) (some (b (11 * 2)))) (3 - 1) (some (b (11 * 3)))) (4 - 1) (some (b (11 * 4)))) (5 - 1) (some (b (11 * 5)))) (6 - 1) (some (b (11 * 0)))) x) H := hq_6
                refine lv_aload_n hC.1 hC.2.1 dX5_dropOldest_58 rfl (lv_at hl 2 rfl) ?_
                refine lv_aload_n hC.1 hC.2.1 dX5_dropOldest_59 rfl (lv_at hl 2 rfl) ?_
                refine gf (v := .ref (a 1)) hC fwX5 (hKN.go hAL hS) hP 0 rfl rfl 3 (by decide) rfl wd_192 rfl dX5_dropOldest_60 ?_
                refine sv_len (f := va_up (va_up (va_up (va_up (va_up (va_up (hdF b) (1 - 1) (some (b (11 * 1)))) (2 - 1) (some (b (11 * 2)))) (3 - 1) (some (b (11 * 3)))) (4 - 1) (some (b (11 * 4)))) (5 - 1) (some (b (11 * 5)))) (6 - 1) (some (b (11 * 0)))) (x := x) hC (hKN.go hAL hS) hP dX5_dropOldest_63 ?_
                refine lv_iconst (v := 1) hC.1 hC.2.1 dX5_dropOldest_64 (by decide) ?_
                refine lv_isub hC.1 hC.2.1 dX5_dropOldest_65 ?_
                refine lv_topi (fun w_7 ew_7 => ?_)
                refine pfOX (f := va_up (va_up (va_up (va_up (va_up (va_up (hdF b) (1 - 1) (some (b (11 * 1)))) (2 - 1) (some (b (11 * 2)))) (3 - 1) (some (b (11 * 3)))) (4 - 1) (some (b (11 * 4)))) (5 - 1) (some (b (11 * 5)))) (6 - 1) (some (b (11 * 0)))) (x := x) (v := .int w_7) (tv := .int) (x' := mkH (x 0) (x 1) (x 2) (x 3) (x 4) (x 5) (x 6) (x 7) (x 8) (x 9 0) (x 9 1) w_7 (x 9 2 1) (x 9 2 2)) hC fwX5 (hKN.go hAL hS) hP hq hAb hS 0 (by decide) rfl rfl 6 (by decide) rfl wd_195 rfl rfl rfl (Nat.le_of_ble_eq_true rfl) rfl ⟨rfl, rfl, rfl, rfl, rfl, rfl, rfl, rfl, rfl⟩ dX5_dropOldest_66 (fun H locs hP hS => ?_)
                subst ew_7
                obtain ⟨b', hR, hP⟩ := drop_end hq hP rfl rfl rfl rfl rfl rfl
                exact eE_v hC ⟨b', ⟨hR.1, fun z h => hAb z (hR.2 z h)⟩, hP⟩ hS dX5_dropOldest_69
            · exact absurd (by decide) k14
