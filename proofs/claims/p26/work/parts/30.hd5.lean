def fX5_saveState (x : HV) : HV := if (x 9 2 0) < (nI 6) then (let r_3 := fX2_copyFrom (x (3 + ((x 9 2 0).toNatClampNeg))) (x 0)
  let w_5 : Int32 := ((hU x ((x 9 2 0).toNatClampNeg) r_3) 9 2 0) + 1; mkH ((hU x ((x 9 2 0).toNatClampNeg) r_3) 0) ((hU x ((x 9 2 0).toNatClampNeg) r_3) 1) ((hU x ((x 9 2 0).toNatClampNeg) r_3) 2) ((hU x ((x 9 2 0).toNatClampNeg) r_3) 3) ((hU x ((x 9 2 0).toNatClampNeg) r_3) 4) ((hU x ((x 9 2 0).toNatClampNeg) r_3) 5) ((hU x ((x 9 2 0).toNatClampNeg) r_3) 6) ((hU x ((x 9 2 0).toNatClampNeg) r_3) 7) ((hU x ((x 9 2 0).toNatClampNeg) r_3) 8) ((hU x ((x 9 2 0).toNatClampNeg) r_3) 9 0) ((hU x ((x 9 2 0).toNatClampNeg) r_3) 9 1) w_5 ((hU x ((x 9 2 0).toNatClampNeg) r_3) 9 2 1) ((hU x ((x 9 2 0).toNatClampNeg) r_3) 9 2 2) ) else (let r_9 := fX5_dropOldest x
  let r_12 := fX2_copyFrom (r_9 (3 + ((r_9 9 2 0).toNatClampNeg))) (r_9 0)
  let w_14 : Int32 := ((hU r_9 ((r_9 9 2 0).toNatClampNeg) r_12) 9 2 0) + 1; mkH ((hU r_9 ((r_9 9 2 0).toNatClampNeg) r_12) 0) ((hU r_9 ((r_9 9 2 0).toNatClampNeg) r_12) 1) ((hU r_9 ((r_9 9 2 0).toNatClampNeg) r_12) 2) ((hU r_9 ((r_9 9 2 0).toNatClampNeg) r_12) 3) ((hU r_9 ((r_9 9 2 0).toNatClampNeg) r_12) 4) ((hU r_9 ((r_9 9 2 0).toNatClampNeg) r_12) 5) ((hU r_9 ((r_9 9 2 0).toNatClampNeg) r_12) 6) ((hU r_9 ((r_9 9 2 0).toNatClampNeg) r_12) 7) ((hU r_9 ((r_9 9 2 0).toNatClampNeg) r_12) 8) ((hU r_9 ((r_9 9 2 0).toNatClampNeg) r_12) 9 0) ((hU r_9 ((r_9 9 2 0).toNatClampNeg) r_12) 9 1) w_14 ((hU r_9 ((r_9 9 2 0).toNatClampNeg) r_12) 9 2 1) ((hU r_9 ((r_9 9 2 0).toNatClampNeg) r_12) 9 2 2) )
/-- a number from 0 to b -/
def le_n (x : Int32) (b : Nat) : Prop := ¬ x < 0 ∧ x.toNatClampNeg ≤ b
theorem lq {x : Int32} {b : Nat} (h : le_n x b) : x = nI x.toNatClampNeg := (i_clamp h.1).1
theorem le_n_nI {k b : Nat} (h : k ≤ b) (hb : b < 2 ^ 31) : le_n (nI k) b := ⟨nI_nlt (a := k) (b := 0) (Nat.zero_le _) (by omega), by rw [nI_clamp (by omega)]; exact h⟩
theorem lt_n {x : Int32} {b : Nat} (h : le_n x b) (k : ¬ x = nI b) : x.toNatClampNeg < b := by
  rcases Nat.lt_or_ge x.toNatClampNeg b with z | z
  · exact z
  · exact absurd ((lq h).trans (congrArg nI (Nat.le_antisymm h.2 z))) k
theorem SM5_dec {x y : Int32} (e : y = x - 1) (h : x = nI 6) : le_n y 5 := by
  rw [e, h]; exact ⟨by decide, by decide⟩
theorem le_n_lt {x : Int32} {b : Nat} (h : le_n x (b + 1)) (k : ¬ x = nI (b + 1)) : le_n x b := ⟨h.1, Nat.le_of_lt_succ (lt_n h k)⟩
theorem le_n_dec {x y : Int32} {b : Nat} (hb : b + 1 < 2 ^ 31) (e : y = x - 1) (k : ¬ x = 0) (h : le_n x (b + 1)) : le_n y b := by
  have h1 := lq h
  have h2 := h.2
  rw [e, h1]
  generalize x.toNatClampNeg = n at h1 h2 ⊢
  cases n with
  | zero => exact absurd h1 k
  | succ n => rw [show nI (n + 1) - 1 = nI n from nE_sub (a := n + 1) (b := 1) rfl rfl (by omega)]; exact le_n_nI (by omega) (by omega)
theorem drop_5 (x : HV) : le_n ((fX5_dropOldest x) 9 2 0) 5 := ⟨by show ¬ (6 - 1 : Int32) < 0; decide, by show (6 - 1 : Int32).toNatClampNeg ≤ 5; decide⟩
theorem lt6 {x : Int32} (h : le_n x 6) (k : x < 6) : x.toNatClampNeg < 6 := by
  refine lt_n h (fun e => ?_)
  rw [e] at k
  exact absurd k (by decide)
theorem dX5_saveState_0 : decode cX5_saveState 0 = .ok (.aload_n 0, 1) := by decide +kernel
theorem dX5_saveState_1 : decode cX5_saveState 1 = .ok (.getfield 40, 3) := by decide +kernel
theorem dX5_saveState_4 : decode cX5_saveState 4 = .ok (.aload_n 0, 1) := by decide +kernel
theorem dX5_saveState_5 : decode cX5_saveState 5 = .ok (.getfield 22, 3) := by decide +kernel
theorem dX5_saveState_8 : decode cX5_saveState 8 = .ok (.arraylength, 1) := by decide +kernel
theorem dX5_saveState_9 : decode cX5_saveState 9 = .ok (.if_icmp .lt 7, 3) := by decide +kernel
theorem dX5_saveState_12 : decode cX5_saveState 12 = .ok (.aload_n 0, 1) := by decide +kernel
theorem dX5_saveState_13 : decode cX5_saveState 13 = .ok (.invokevirtual 264, 3) := by decide +kernel
theorem dX5_saveState_16 : decode cX5_saveState 16 = .ok (.aload_n 0, 1) := by decide +kernel
theorem dX5_saveState_17 : decode cX5_saveState 17 = .ok (.aload_n 0, 1) := by decide +kernel
theorem dX5_saveState_18 : decode cX5_saveState 18 = .ok (.getfield 40, 3) := by decide +kernel
theorem dX5_saveState_21 : decode cX5_saveState 21 = .ok (.invokevirtual 181, 3) := by decide +kernel
theorem dX5_saveState_24 : decode cX5_saveState 24 = .ok (.astore_n 1, 1) := by decide +kernel
theorem dX5_saveState_25 : decode cX5_saveState 25 = .ok (.aload_n 1, 1) := by decide +kernel
theorem dX5_saveState_26 : decode cX5_saveState 26 = .ok (.ifnull 21, 3) := by decide +kernel
theorem dX5_saveState_29 : decode cX5_saveState 29 = .ok (.aload_n 1, 1) := by decide +kernel
theorem dX5_saveState_30 : decode cX5_saveState 30 = .ok (.aload_n 0, 1) := by decide +kernel
theorem dX5_saveState_31 : decode cX5_saveState 31 = .ok (.getfield 10, 3) := by decide +kernel
theorem dX5_saveState_34 : decode cX5_saveState 34 = .ok (.invokevirtual 185, 3) := by decide +kernel
theorem dX5_saveState_37 : decode cX5_saveState 37 = .ok (.aload_n 0, 1) := by decide +kernel
theorem dX5_saveState_38 : decode cX5_saveState 38 = .ok (.dup, 1) := by decide +kernel
theorem dX5_saveState_39 : decode cX5_saveState 39 = .ok (.getfield 40, 3) := by decide +kernel
theorem dX5_saveState_42 : decode cX5_saveState 42 = .ok (.iconst 1, 1) := by decide +kernel
theorem dX5_saveState_43 : decode cX5_saveState 43 = .ok (.iadd, 1) := by decide +kernel
theorem dX5_saveState_44 : decode cX5_saveState 44 = .ok (.putfield 40, 3) := by decide +kernel
theorem dX5_saveState_47 : decode cX5_saveState 47 = .ok (.return_, 1) := by decide +kernel
set_option maxHeartbeats 1000000 in
set_option maxRecDepth 100000 in
theorem c_X5_saveState (l : Launch) (G : GT) (a : Nat → Nat) (b0 : Nat → Nat) (x : HV) (hq : hdD G a b0) (hI : le_n (x 9 2 0) 6) : Met l yX5_saveState (Cond.code yX5_saveState cX5_saveState 2 none :: bigW) ({ frames := 4, cells := 0, slots := 0, locals := 93 }) (BP G [.ref (a 0)] (fun U H => PW G (hdW G a b0 x) H)) (QE (none) (fun H => ∃ b', hdR G a b0 b' ∧ PW G (hdW G a b' (fX5_saveState x)) H) (hdA a b0)) 0 0 (hdA a b0) := by
  refine met_of (by decide) (Nat.le_of_ble_eq_true rfl) ?_
  intro p e s m below meth c ls hC hKN hB0 hl
  have hP := hB0
  have hl : lv_has ls 2 [(0, .ref (a 0))] := hl
  have hS : va_S (hdA a b0) s.heap s.heap [] := va_S.rf
  have hAL : ∀ z, (hdA a b0) z → gL G ≤ z := hdD_low hq
  obtain ⟨b, hbe⟩ : ∃ b, b = b0 := ⟨_, rfl⟩
  rw [← hbe] at hP
  have hq0 := hq
  rw [← hbe] at hq
  have hAb : ∀ z, hdA a b z → hdA a b0 z := by rw [hbe]; exact fun _ h => h
  have hg : fX5_saveState x = fX5_saveState x := rfl
  refine lv_aload_n hC.1 hC.2.1 dX5_saveState_0 rfl (lv_at hl 0 rfl) ?_
  refine gf (v := .int (x 9 2 0)) hC fwX5 hKN hP 0 rfl rfl 6 (by decide) rfl wd_195 rfl dX5_saveState_1 ?_
  refine lv_aload_n hC.1 hC.2.1 dX5_saveState_4 rfl (lv_at hl 0 rfl) ?_
  refine gf (v := .ref (a 1)) hC fwX5 hKN hP 0 rfl rfl 3 (by decide) rfl wd_192 rfl dX5_saveState_5 ?_
  refine sv_len (f := hdF b) (x := x) hC hKN hP dX5_saveState_8 ?_
  refine lv_icmp_lt (tgt := 16) hC.1 hC.2.1 dX5_saveState_9 (by decide) (fun k9 => ?_) (fun k9 => ?_)
  · refine lv_aload_n hC.1 hC.2.1 dX5_saveState_16 rfl (lv_at hl 0 rfl) ?_
    refine lv_aload_n hC.1 hC.2.1 dX5_saveState_17 rfl (lv_at hl 0 rfl) ?_
    refine gf (v := .int (x 9 2 0)) hC fwX5 hKN hP 0 rfl rfl 6 (by decide) rfl wd_195 rfl dX5_saveState_18 ?_
    refine lv_topi (fun w_1 ew_1 => ?_)
    rw [show w_1 = nI ((x 9 2 0).toNatClampNeg) from ew_1.trans (lq hI)]
    refine runP (rV (B := fun U H => PW G (hdW G a b x) H) (As := [.int (nI ((x 9 2 0).toNatClampNeg))]) (rest := []) hC mwX5_savedAt (c_X5_savedAt l G a b x ((x 9 2 0).toNatClampNeg) (by first | exact lt6 hI k9 | exact Nat.lt_succ_of_le hI.2)) iwX5_savedAt wd_610 ⟨rfl, rfl⟩ ⟨Nat.le_of_ble_eq_true rfl, Nat.le_of_ble_eq_true rfl⟩ (stb_h (fun H => PW G (hdW G a b x) H)) hKN hP (va_recv hKN.k hP (ci := 5) (q0 := 0) rfl rfl) rfl hl.1 rfl (Nat.le_of_ble_eq_true rfl) dX5_saveState_21 ⟨Nat.zero_le _, Nat.zero_le _⟩) ?_
    refine lv_astore_n (lv' := [(1, .ref (b (11 * ((x 9 2 0).toNatClampNeg)))), (0, .ref (a 0))]) hC.1 hC.2.1 dX5_saveState_24 rfl hl (by decide) rfl (fun ls hl => ?_)
    refine lv_aload_n hC.1 hC.2.1 dX5_saveState_25 rfl (lv_at hl 0 rfl) ?_
    refine lv_ifnull hC.1 hC.2.1 dX5_saveState_26 ?_
    refine lv_aload_n hC.1 hC.2.1 dX5_saveState_29 rfl (lv_at hl 0 rfl) ?_
    refine lv_aload_n hC.1 hC.2.1 dX5_saveState_30 rfl (lv_at hl 1 rfl) ?_
    refine gf (v := .ref (a 5)) hC fwX5 hKN hP 0 rfl rfl 0 (by decide) rfl wd_189 rfl dX5_saveState_31 ?_
    refine runE (rV (B := fun U H => PW G (stW G (sB b ((x 9 2 0).toNatClampNeg)) (x (3 + ((x 9 2 0).toNatClampNeg)))) H ∧ PW G (stW G (sA a 0) (x 0)) H) (As := [.ref (a 5)]) (rest := []) hC mwX2_copyFrom (c_X2_copyFrom l G (sB b ((x 9 2 0).toNatClampNeg)) (x (3 + ((x 9 2 0).toNatClampNeg))) (sA a 0) (x 0) (hdD_sb hq _ (by first | exact lt6 hI k9 | exact Nat.lt_succ_of_le hI.2)) (hdD_bN hq 0 _ (by decide) (by first | exact lt6 hI k9 | exact Nat.lt_succ_of_le hI.2))) iwX2_copyFrom wd_458 ⟨rfl, rfl⟩ ⟨Nat.le_of_ble_eq_true rfl, Nat.le_of_ble_eq_true rfl⟩ (stb_and (stb_h (fun H => PW G (stW G (sB b ((x 9 2 0).toNatClampNeg)) (x (3 + ((x 9 2 0).toNatClampNeg)))) H)) (stb_h (fun H => PW G (stW G (sA a 0) (x 0)) H))) hKN ⟨(hd_sb (x := x) hP (by first | exact lt6 hI k9 | exact Nat.lt_succ_of_le hI.2)), (hd_st0 (x := x) hP)⟩ (va_recv hKN.k (hd_sb (x := x) hP (by first | exact lt6 hI k9 | exact Nat.lt_succ_of_le hI.2)) (ci := 2) (q0 := 0) rfl rfl) rfl hl.1 rfl (Nat.le_of_ble_eq_true rfl) dX5_saveState_34 ⟨Nat.zero_le _, Nat.zero_le _⟩) hS (fun _ h => hAb _ (hdA_sb (by first | exact lt6 hI k9 | exact Nat.lt_succ_of_le hI.2) h)) (fun _ h => hAb _ (hdA_sb (by first | exact lt6 hI k9 | exact Nat.lt_succ_of_le hI.2) h)) (fun H locs hq_2 _ hk_4 hS => ?_)
    have hP : PW G (hdW G a b (hU x ((x 9 2 0).toNatClampNeg) (fX2_copyFrom (x (3 + ((x 9 2 0).toNatClampNeg))) (x 0)))) H := hd_setU (x := x) hq hP (by first | exact lt6 hI k9 | exact Nat.lt_succ_of_le hI.2) hq_2 hk_4
    obtain ⟨r_3, er_3⟩ : ∃ z, z = fX2_copyFrom (x (3 + ((x 9 2 0).toNatClampNeg))) (x 0) := ⟨_, rfl⟩
    rw [← er_3] at hP
    refine lv_aload_n hC.1 hC.2.1 dX5_saveState_37 rfl (lv_at hl 1 rfl) ?_
    refine lv_dup hC.1 hC.2.1 dX5_saveState_38 rfl ?_
    refine gf (v := .int ((hU x ((x 9 2 0).toNatClampNeg) r_3) 9 2 0)) hC fwX5 (hKN.go hAL hS) hP 0 rfl rfl 6 (by decide) rfl wd_195 rfl dX5_saveState_39 ?_
    refine lv_iconst (v := 1) hC.1 hC.2.1 dX5_saveState_42 (by decide) ?_
    refine lv_iadd hC.1 hC.2.1 dX5_saveState_43 ?_
    refine lv_topi (fun w_5 ew_5 => ?_)
    refine pfOL (x := (hU x ((x 9 2 0).toNatClampNeg) r_3)) (v := .int w_5) (tv := .int) (x' := mkH ((hU x ((x 9 2 0).toNatClampNeg) r_3) 0) ((hU x ((x 9 2 0).toNatClampNeg) r_3) 1) ((hU x ((x 9 2 0).toNatClampNeg) r_3) 2) ((hU x ((x 9 2 0).toNatClampNeg) r_3) 3) ((hU x ((x 9 2 0).toNatClampNeg) r_3) 4) ((hU x ((x 9 2 0).toNatClampNeg) r_3) 5) ((hU x ((x 9 2 0).toNatClampNeg) r_3) 6) ((hU x ((x 9 2 0).toNatClampNeg) r_3) 7) ((hU x ((x 9 2 0).toNatClampNeg) r_3) 8) ((hU x ((x 9 2 0).toNatClampNeg) r_3) 9 0) ((hU x ((x 9 2 0).toNatClampNeg) r_3) 9 1) w_5 ((hU x ((x 9 2 0).toNatClampNeg) r_3) 9 2 1) ((hU x ((x 9 2 0).toNatClampNeg) r_3) 9 2 2)) hC fwX5 (hKN.go hAL hS) hP hq hAb hS 0 (by decide) rfl rfl 6 (by decide) rfl wd_195 rfl rfl rfl (Nat.le_of_ble_eq_true rfl) rfl ⟨rfl, rfl, rfl, rfl, rfl, rfl, rfl, rfl, rfl⟩ dX5_saveState_44 (fun H locs hP hS => ?_)
    have hI : True := trivial
    have e_7 : fX5_saveState x = mkH ((hU x ((x 9 2 0).toNatClampNeg) r_3) 0) ((hU x ((x 9 2 0).toNatClampNeg) r_3) 1) ((hU x ((x 9 2 0).toNatClampNeg) r_3) 2) ((hU x ((x 9 2 0).toNatClampNeg) r_3) 3) ((hU x ((x 9 2 0).toNatClampNeg) r_3) 4) ((hU x ((x 9 2 0).toNatClampNeg) r_3) 5) ((hU x ((x 9 2 0).toNatClampNeg) r_3) 6) ((hU x ((x 9 2 0).toNatClampNeg) r_3) 7) ((hU x ((x 9 2 0).toNatClampNeg) r_3) 8) ((hU x ((x 9 2 0).toNatClampNeg) r_3) 9 0) ((hU x ((x 9 2 0).toNatClampNeg) r_3) 9 1) w_5 ((hU x ((x 9 2 0).toNatClampNeg) r_3) 9 2 1) ((hU x ((x 9 2 0).toNatClampNeg) r_3) 9 2 2)  := by
      have q_ := ew_5.symm; subst q_; delta fX5_saveState
      try dsimp only
      rw [← er_3]
      exact Eq.trans (if_pos k9) rfl
    have hg : fX5_saveState x = mkH ((hU x ((x 9 2 0).toNatClampNeg) r_3) 0) ((hU x ((x 9 2 0).toNatClampNeg) r_3) 1) ((hU x ((x 9 2 0).toNatClampNeg) r_3) 2) ((hU x ((x 9 2 0).toNatClampNeg) r_3) 3) ((hU x ((x 9 2 0).toNatClampNeg) r_3) 4) ((hU x ((x 9 2 0).toNatClampNeg) r_3) 5) ((hU x ((x 9 2 0).toNatClampNeg) r_3) 6) ((hU x ((x 9 2 0).toNatClampNeg) r_3) 7) ((hU x ((x 9 2 0).toNatClampNeg) r_3) 8) ((hU x ((x 9 2 0).toNatClampNeg) r_3) 9 0) ((hU x ((x 9 2 0).toNatClampNeg) r_3) 9 1) w_5 ((hU x ((x 9 2 0).toNatClampNeg) r_3) 9 2 1) ((hU x ((x 9 2 0).toNatClampNeg) r_3) 9 2 2)  := by have e2 := congrArg (fun z => z) e_7; exact hg.trans e2
    exact eE_v hC ⟨b, ⟨hq, hAb⟩, by rw [hg]; exact hP⟩ hS dX5_saveState_47
  · refine lv_aload_n hC.1 hC.2.1 dX5_saveState_12 rfl (lv_at hl 0 rfl) ?_
    refine runE (rV (B := fun U H => PW G (hdW G a b x) H) (As := []) (rest := []) hC mwX5_dropOldest (c_X5_dropOldest l G a b x hq) iwX5_dropOldest wd_606 ⟨rfl, rfl⟩ ⟨Nat.le_of_ble_eq_true rfl, Nat.le_of_ble_eq_true rfl⟩ (stb_h (fun H => PW G (hdW G a b x) H)) hKN hP (va_recv hKN.k hP (ci := 5) (q0 := 0) rfl rfl) rfl hl.1 rfl (Nat.le_of_ble_eq_true rfl) dX5_saveState_13 ⟨Nat.zero_le _, Nat.zero_le _⟩) hS (fun _ h => hAb _ h) (fun _ h => hAb _ h) (fun H locs hq_8 _ _ hS => ?_)
    obtain ⟨b, ⟨hq, hR⟩, hP⟩ := hq_8
    have hAb := fun z h => hAb z (hR z h)
    obtain ⟨r_9, er_9⟩ : ∃ z, z = fX5_dropOldest x := ⟨_, rfl⟩
    rw [← er_9] at hP
    have hI : le_n (r_9 9 2 0) 5 := by rw [er_9]; exact (drop_5 _)
    refine lv_aload_n hC.1 hC.2.1 dX5_saveState_16 rfl (lv_at hl 0 rfl) ?_
    refine lv_aload_n hC.1 hC.2.1 dX5_saveState_17 rfl (lv_at hl 0 rfl) ?_
    refine gf (v := .int (r_9 9 2 0)) hC fwX5 (hKN.go hAL hS) hP 0 rfl rfl 6 (by decide) rfl wd_195 rfl dX5_saveState_18 ?_
    refine lv_topi (fun w_10 ew_10 => ?_)
    rw [show w_10 = nI ((r_9 9 2 0).toNatClampNeg) from ew_10.trans (lq hI)]
    refine runP (rV (B := fun U H => PW G (hdW G a b r_9) H) (As := [.int (nI ((r_9 9 2 0).toNatClampNeg))]) (rest := []) hC mwX5_savedAt (c_X5_savedAt l G a b r_9 ((r_9 9 2 0).toNatClampNeg) (by first | exact lt6 hI k9 | exact Nat.lt_succ_of_le hI.2)) iwX5_savedAt wd_610 ⟨rfl, rfl⟩ ⟨Nat.le_of_ble_eq_true rfl, Nat.le_of_ble_eq_true rfl⟩ (stb_h (fun H => PW G (hdW G a b r_9) H)) (hKN.go hAL hS) hP (va_recv (hKN.go hAL hS).k hP (ci := 5) (q0 := 0) rfl rfl) rfl hl.1 rfl (Nat.le_of_ble_eq_true rfl) dX5_saveState_21 ⟨Nat.zero_le _, Nat.zero_le _⟩) ?_
    refine lv_astore_n (lv' := [(1, .ref (b (11 * ((r_9 9 2 0).toNatClampNeg)))), (0, .ref (a 0))]) hC.1 hC.2.1 dX5_saveState_24 rfl hl (by decide) rfl (fun ls hl => ?_)
    refine lv_aload_n hC.1 hC.2.1 dX5_saveState_25 rfl (lv_at hl 0 rfl) ?_
    refine lv_ifnull hC.1 hC.2.1 dX5_saveState_26 ?_
    refine lv_aload_n hC.1 hC.2.1 dX5_saveState_29 rfl (lv_at hl 0 rfl) ?_
    refine lv_aload_n hC.1 hC.2.1 dX5_saveState_30 rfl (lv_at hl 1 rfl) ?_
    refine gf (v := .ref (a 5)) hC fwX5 (hKN.go hAL hS) hP 0 rfl rfl 0 (by decide) rfl wd_189 rfl dX5_saveState_31 ?_
    refine runE (rV (B := fun U H => PW G (stW G (sB b ((r_9 9 2 0).toNatClampNeg)) (r_9 (3 + ((r_9 9 2 0).toNatClampNeg)))) H ∧ PW G (stW G (sA a 0) (r_9 0)) H) (As := [.ref (a 5)]) (rest := []) hC mwX2_copyFrom (c_X2_copyFrom l G (sB b ((r_9 9 2 0).toNatClampNeg)) (r_9 (3 + ((r_9 9 2 0).toNatClampNeg))) (sA a 0) (r_9 0) (hdD_sb hq _ (by first | exact lt6 hI k9 | exact Nat.lt_succ_of_le hI.2)) (hdD_bN hq 0 _ (by decide) (by first | exact lt6 hI k9 | exact Nat.lt_succ_of_le hI.2))) iwX2_copyFrom wd_458 ⟨rfl, rfl⟩ ⟨Nat.le_of_ble_eq_true rfl, Nat.le_of_ble_eq_true rfl⟩ (stb_and (stb_h (fun H => PW G (stW G (sB b ((r_9 9 2 0).toNatClampNeg)) (r_9 (3 + ((r_9 9 2 0).toNatClampNeg)))) H)) (stb_h (fun H => PW G (stW G (sA a 0) (r_9 0)) H))) (hKN.go hAL hS) ⟨(hd_sb (x := r_9) hP (by first | exact lt6 hI k9 | exact Nat.lt_succ_of_le hI.2)), (hd_st0 (x := r_9) hP)⟩ (va_recv (hKN.go hAL hS).k (hd_sb (x := r_9) hP (by first | exact lt6 hI k9 | exact Nat.lt_succ_of_le hI.2)) (ci := 2) (q0 := 0) rfl rfl) rfl hl.1 rfl (Nat.le_of_ble_eq_true rfl) dX5_saveState_34 ⟨Nat.zero_le _, Nat.zero_le _⟩) hS (fun _ h => hAb _ (hdA_sb (by first | exact lt6 hI k9 | exact Nat.lt_succ_of_le hI.2) h)) (fun _ h => hAb _ (hdA_sb (by first | exact lt6 hI k9 | exact Nat.lt_succ_of_le hI.2) h)) (fun H locs hq_11 _ hk_13 hS => ?_)
    have hP : PW G (hdW G a b (hU r_9 ((r_9 9 2 0).toNatClampNeg) (fX2_copyFrom (r_9 (3 + ((r_9 9 2 0).toNatClampNeg))) (r_9 0)))) H := hd_setU (x := r_9) hq hP (by first | exact lt6 hI k9 | exact Nat.lt_succ_of_le hI.2) hq_11 hk_13
    obtain ⟨r_12, er_12⟩ : ∃ z, z = fX2_copyFrom (r_9 (3 + ((r_9 9 2 0).toNatClampNeg))) (r_9 0) := ⟨_, rfl⟩
    rw [← er_12] at hP
    refine lv_aload_n hC.1 hC.2.1 dX5_saveState_37 rfl (lv_at hl 1 rfl) ?_
    refine lv_dup hC.1 hC.2.1 dX5_saveState_38 rfl ?_
    refine gf (v := .int ((hU r_9 ((r_9 9 2 0).toNatClampNeg) r_12) 9 2 0)) hC fwX5 (hKN.go hAL hS) hP 0 rfl rfl 6 (by decide) rfl wd_195 rfl dX5_saveState_39 ?_
    refine lv_iconst (v := 1) hC.1 hC.2.1 dX5_saveState_42 (by decide) ?_
    refine lv_iadd hC.1 hC.2.1 dX5_saveState_43 ?_
    refine lv_topi (fun w_14 ew_14 => ?_)
    refine pfOL (x := (hU r_9 ((r_9 9 2 0).toNatClampNeg) r_12)) (v := .int w_14) (tv := .int) (x' := mkH ((hU r_9 ((r_9 9 2 0).toNatClampNeg) r_12) 0) ((hU r_9 ((r_9 9 2 0).toNatClampNeg) r_12) 1) ((hU r_9 ((r_9 9 2 0).toNatClampNeg) r_12) 2) ((hU r_9 ((r_9 9 2 0).toNatClampNeg) r_12) 3) ((hU r_9 ((r_9 9 2 0).toNatClampNeg) r_12) 4) ((hU r_9 ((r_9 9 2 0).toNatClampNeg) r_12) 5) ((hU r_9 ((r_9 9 2 0).toNatClampNeg) r_12) 6) ((hU r_9 ((r_9 9 2 0).toNatClampNeg) r_12) 7) ((hU r_9 ((r_9 9 2 0).toNatClampNeg) r_12) 8) ((hU r_9 ((r_9 9 2 0).toNatClampNeg) r_12) 9 0) ((hU r_9 ((r_9 9 2 0).toNatClampNeg) r_12) 9 1) w_14 ((hU r_9 ((r_9 9 2 0).toNatClampNeg) r_12) 9 2 1) ((hU r_9 ((r_9 9 2 0).toNatClampNeg) r_12) 9 2 2)) hC fwX5 (hKN.go hAL hS) hP hq hAb hS 0 (by decide) rfl rfl 6 (by decide) rfl wd_195 rfl rfl rfl (Nat.le_of_ble_eq_true rfl) rfl ⟨rfl, rfl, rfl, rfl, rfl, rfl, rfl, rfl, rfl⟩ dX5_saveState_44 (fun H locs hP hS => ?_)
    have hI : True := trivial
    have e_16 : fX5_saveState x = mkH ((hU r_9 ((r_9 9 2 0).toNatClampNeg) r_12) 0) ((hU r_9 ((r_9 9 2 0).toNatClampNeg) r_12) 1) ((hU r_9 ((r_9 9 2 0).toNatClampNeg) r_12) 2) ((hU r_9 ((r_9 9 2 0).toNatClampNeg) r_12) 3) ((hU r_9 ((r_9 9 2 0).toNatClampNeg) r_12) 4) ((hU r_9 ((r_9 9 2 0).toNatClampNeg) r_12) 5) ((hU r_9 ((r_9 9 2 0).toNatClampNeg) r_12) 6) ((hU r_9 ((r_9 9 2 0).toNatClampNeg) r_12) 7) ((hU r_9 ((r_9 9 2 0).toNatClampNeg) r_12) 8) ((hU r_9 ((r_9 9 2 0).toNatClampNeg) r_12) 9 0) ((hU r_9 ((r_9 9 2 0).toNatClampNeg) r_12) 9 1) w_14 ((hU r_9 ((r_9 9 2 0).toNatClampNeg) r_12) 9 2 1) ((hU r_9 ((r_9 9 2 0).toNatClampNeg) r_12) 9 2 2)  := by
      have q_ := ew_14.symm; subst q_; delta fX5_saveState
      try dsimp only
      rw [← er_9]
      rw [← er_12]
      exact Eq.trans (if_neg k9) rfl
    have hg : fX5_saveState x = mkH ((hU r_9 ((r_9 9 2 0).toNatClampNeg) r_12) 0) ((hU r_9 ((r_9 9 2 0).toNatClampNeg) r_12) 1) ((hU r_9 ((r_9 9 2 0).toNatClampNeg) r_12) 2) ((hU r_9 ((r_9 9 2 0).toNatClampNeg) r_12) 3) ((hU r_9 ((r_9 9 2 0).toNatClampNeg) r_12) 4) ((hU r_9 ((r_9 9 2 0).toNatClampNeg) r_12) 5) ((hU r_9 ((r_9 9 2 0).toNatClampNeg) r_12) 6) ((hU r_9 ((r_9 9 2 0).toNatClampNeg) r_12) 7) ((hU r_9 ((r_9 9 2 0).toNatClampNeg) r_12) 8) ((hU r_9 ((r_9 9 2 0).toNatClampNeg) r_12) 9 0) ((hU r_9 ((r_9 9 2 0).toNatClampNeg) r_12) 9 1) w_14 ((hU r_9 ((r_9 9 2 0).toNatClampNeg) r_12) 9 2 1) ((hU r_9 ((r_9 9 2 0).toNatClampNeg) r_12) 9 2 2)  := by have e2 := congrArg (fun z => z) e_16; exact hg.trans e2
    exact eE_v hC ⟨b, ⟨hq, hAb⟩, by rw [hg]; exact hP⟩ hS dX5_saveState_47
