def fX2_setting (v : SV) (x1 : Int32) : Int32 := fX5_at 7 (v 2) x1
def fX2_dotsAtOnce (v : SV) : Int32 := if 1 ≤ (fX5_at 7 (v 2) 3) then ((if 1 < ((fX5_at 7 (v 2) 4) / (fX5_at 7 (v 2) 3)) then ((fX5_at 7 (v 2) 4) / (fX5_at 7 (v 2) 3)) else 1)) else (1)
def fX2_pulseIn (v : SV) (x1 : Int32) (x2 : Int32) (x3 : Int32) : Int32 := (if 20 < ((x3 + (fX5_at 3 st3 (v 8 10))) - (((20 * (fX5_bitOf (v 8 8) x2)) + (10 * (fX5_bitOf (v 8 9) x2))) + (5 * ((fX5_bitOf x1 (x2 - 1)) + (fX5_bitOf x1 (x2 + 1)))))) then ((x3 + (fX5_at 3 st3 (v 8 10))) - (((20 * (fX5_bitOf (v 8 8) x2)) + (10 * (fX5_bitOf (v 8 9) x2))) + (5 * ((fX5_bitOf x1 (x2 - 1)) + (fX5_bitOf x1 (x2 + 1)))))) else 20)
def fX2_pulseAlone (v : SV) (x1 : Int32) (x2 : Int32) : Int32 := fX2_pulseIn v 0 x1 x2
def tX2_cooledFor_15 (v : SV) (x1 : Int32) (x2 : Int32) (y3_15 : Int32) (s : Int32 × Int32) : Int32 := let y4_15 := s.1; let y5_15 := s.2; y4_15
def bX2_cooledFor_15 (v : SV) (x1 : Int32) (x2 : Int32) (y3_15 : Int32) (s : Int32 × Int32) : Bool × (Int32 × Int32) := let y4_15 := s.1; let y5_15 := s.2; if x2 ≤ y5_15 then ((false, (y4_15, y5_15))) else (if y4_15 ≤ 0 then ((false, (y4_15, y5_15))) else ((true, (fX2_cooled y4_15 y3_15, y5_15 + 1))))
def fX2_cooledFor (v : SV) (x1 : Int32) (x2 : Int32) : Int32 := tX2_cooledFor_15 v x1 x2 (fX5_at 7 (v 2) 1) (lpB (x2.toNatClampNeg + 1) (bX2_cooledFor_15 v x1 x2 (fX5_at 7 (v 2) 1)) (x1, 0))
def tX2_timeDownTo_15 (v : SV) (x1 : Int32) (x2 : Int32) (y3_15 : Int32) (s : Int32 × Int32) : Int32 := let y4_15 := s.1; let y5_15 := s.2; y5_15
def bX2_timeDownTo_15 (v : SV) (x1 : Int32) (x2 : Int32) (y3_15 : Int32) (s : Int32 × Int32) : Bool × (Int32 × Int32) := let y4_15 := s.1; let y5_15 := s.2; if y4_15 ≤ x2 then ((false, (y4_15, y5_15))) else (if 1000000 ≤ y5_15 then ((false, (y4_15, y5_15))) else ((true, (fX2_cooled y4_15 y3_15, y5_15 + 1))))
def fX2_timeDownTo (v : SV) (x1 : Int32) (x2 : Int32) : Int32 := tX2_timeDownTo_15 v x1 x2 (fX5_at 7 (v 2) 1) (lpB (mS + 1) (bX2_timeDownTo_15 v x1 x2 (fX5_at 7 (v 2) 1)) (x1, 0))
def fX2_waitFor (v : SV) (x1 : Int32) (x2 : Int32) : Int32 := fX2_timeDownTo v x1 ((fX5_at 7 (v 2) 2) - x2)
def fX2_isDark (v : SV) (x1 : Int32) : Int32 := if x1 < (fX5_at 3 st4 (v 8 10)) then (0) else (1)
def tX2_hottestDot_4 (v : SV) (s : Int32) : Int32 := let y1_4 := s; y1_4
def bX2_hottestDot_4 (v : SV) (d4 : Nat) (s : Int32) : Int32 := let y1_4 := s; (if y1_4 < ((v 0) d4) then ((v 0) d4) else y1_4)
def fX2_hottestDot (v : SV) : Int32 := tX2_hottestDot_4 v (lpF 24 0 (bX2_hottestDot_4 v) 0)
def fX2_timeUntilCool (v : SV) (x1 : Int32) : Int32 := fX2_timeDownTo v (fX2_hottestDot v) x1
def tX2_leastDarkSetting_16 (v : SV) (x1 : Int32) (s : Unit) : Int32 := (-1)
def bX2_leastDarkSetting_16 (v : SV) (x1 : Int32) (d16 : Nat) (s : Unit) : (Unit) ⊕ (Int32) := if (fX2_isDark v ((fX2_cooledFor v (fX5_at 24 (v 0) x1) (fX2_waitFor v (fX5_at 24 (v 0) x1) (fX2_pulseAlone v x1 (nI d16)))) + (fX2_pulseAlone v x1 (nI d16)))) = 0 then (Sum.inl ()) else (Sum.inr (nI d16))
def fX2_leastDarkSetting (v : SV) (x1 : Int32) : Int32 := Sum.elim (tX2_leastDarkSetting_16 v x1) id (lpR (301 - 50) 50 (bX2_leastDarkSetting_16 v x1) ())
theorem T_cooledFor (v : SV) (x1 x2 y : Int32) (h : Int32) : lpT (x2.toNatClampNeg + 1) (bX2_cooledFor_15 v x1 x2 y) (h, 0) := by
  have key : ∀ (n k : Nat) (h : Int32), x2.toNatClampNeg ≤ k + n → k ≤ x2.toNatClampNeg → lpT (n + 1) (bX2_cooledFor_15 v x1 x2 y) (h, nI k) := by
    intro n
    induction n with
    | zero =>
      intro k h h1 h2
      have hk : k = x2.toNatClampNeg := by omega
      refine Or.inl ?_
      simp only [bX2_cooledFor_15]
      rw [hk, if_pos (cl_le (Nat.le_refl _) (cl_lt x2))]
    | succ n ih =>
      intro k h h1 h2
      by_cases q : x2 ≤ nI k
      · refine Or.inl ?_
        simp only [bX2_cooledFor_15]
        rw [if_pos q]
      · by_cases q2 : h ≤ 0
        · refine Or.inl ?_
          simp only [bX2_cooledFor_15]
          rw [if_neg q, if_pos q2]
        · refine Or.inr ?_
          simp only [bX2_cooledFor_15]
          rw [if_neg q, if_neg q2]
          show lpT (n + 1) _ (_, nI k + 1)
          rw [nI_1]
          refine ih (k + 1) _ (by omega) ?_
          rcases Nat.lt_or_ge k x2.toNatClampNeg with z | z
          · exact z
          · exact absurd (cl_le z (by have := cl_lt x2; omega)) q
  have h0 := key x2.toNatClampNeg 0 h (by omega) (Nat.zero_le _)
  rw [nI_0] at h0
  exact h0
theorem T_timeDownTo_N (v : SV) (x1 x2 y : Int32) (h : Int32) (N : Nat) (hm : N = 1000000) : lpT (N + 1) (bX2_timeDownTo_15 v x1 x2 y) (h, 0) := by
  have key : ∀ (n k : Nat) (h : Int32), k + n = N → lpT (n + 1) (bX2_timeDownTo_15 v x1 x2 y) (h, nI k) := by
    intro n
    induction n with
    | zero =>
      intro k h h1
      have hk : k = 1000000 := by omega
      refine Or.inl ?_
      simp only [bX2_timeDownTo_15]
      split
      · rfl
      · rw [hk, if_pos (show (1000000 : Int32) ≤ nI 1000000 from nI_le (a := 1000000) (b := 1000000) (Nat.le_refl _) (by omega))]
    | succ n ih =>
      intro k h h1
      by_cases q : h ≤ x2
      · refine Or.inl ?_
        simp only [bX2_timeDownTo_15]
        rw [if_pos q]
      · by_cases q2 : (1000000 : Int32) ≤ nI k
        · refine Or.inl ?_
          simp only [bX2_timeDownTo_15]
          rw [if_neg q, if_pos q2]
        · refine Or.inr ?_
          simp only [bX2_timeDownTo_15]
          rw [if_neg q, if_neg q2]
          show lpT (n + 1) _ (_, nI k + 1)
          rw [nI_1]
          exact ih (k + 1) _ (by omega)
  have h0 := key N 0 h (by omega)
  rw [nI_0] at h0
  exact h0
theorem T_timeDownTo (v : SV) (x1 x2 y : Int32) (h : Int32) : lpT (mS + 1) (bX2_timeDownTo_15 v x1 x2 y) (h, 0) := T_timeDownTo_N v x1 x2 y h mS rfl
theorem dX2_setting_0 : decode cX2_setting 0 = .ok (.aload_n 0, 1) := by decide +kernel
theorem dX2_setting_1 : decode cX2_setting 1 = .ok (.getfield 21, 3) := by decide +kernel
theorem dX2_setting_4 : decode cX2_setting 4 = .ok (.iload_n 1, 1) := by decide +kernel
theorem dX2_setting_5 : decode cX2_setting 5 = .ok (.invokestatic 59, 3) := by decide +kernel
theorem dX2_setting_8 : decode cX2_setting 8 = .ok (.ireturn, 1) := by decide +kernel
set_option maxHeartbeats 1000000 in
set_option maxRecDepth 100000 in
theorem c_X2_setting (l : Launch) (G : GT) (q : Nat → Nat) (v : SV) (x1 : Int32) : Met l yX2_setting (Cond.code yX2_setting cX2_setting 2 (some .int) :: bigW) ({ frames := 1, cells := 0, slots := 0, locals := 21 }) (BP G [.ref (q 0), .int x1] (fun U H => PW G (stW G q v) H)) (QP (.int (fX2_setting v x1))) 0 0 (fun _ => False) := by
  refine met_of (by decide) (Nat.le_of_ble_eq_true rfl) ?_
  intro p e s m below meth c ls hC hKN hB0 hl
  have hP := hB0
  have hl : lv_has ls 2 [(0, .ref (q 0)), (1, .int x1)] := hl
  have hg : fX2_setting v x1 = fX2_setting v x1 := rfl
  refine lv_aload_n hC.1 hC.2.1 dX2_setting_0 rfl (lv_at hl 0 rfl) ?_
  refine gf (v := .ref (q 3)) hC fwX2 hKN hP 0 rfl rfl 2 (by decide) rfl wd_110 rfl dX2_setting_1 ?_
  refine lv_iload_n hC.1 hC.2.1 dX2_setting_4 rfl (lv_at hl 1 rfl) ?_
  refine runP (rSN (B := fun U H => RD (q 3) 7 (v 2) U H) (As := [.ref (q 3), .int x1]) (rest := []) hC mwX5_at (c_X5_at l G (q 3) 7 (v 2) x1) wd_328 (nm_1 hKN) ⟨rfl, rfl⟩ ⟨Nat.le_of_ble_eq_true rfl, Nat.le_of_ble_eq_true rfl⟩ (stb_RD _ _ _) hKN (RD.ofP hKN hP 3 rfl) rfl hl.1 rfl (Nat.le_of_ble_eq_true rfl) dX2_setting_5 ⟨Nat.zero_le _, Nat.zero_le _⟩) ?_
  have e_1 : fX2_setting v x1 = fX5_at 7 (v 2) x1 := by exact rfl
  have hg : fX2_setting v x1 = fX5_at 7 (v 2) x1 := hg.trans (congrArg (fun z => z) e_1)
  exact eP_i hC (congrArg Value.int hg) dX2_setting_8

theorem dX2_dotsAtOnce_0 : decode cX2_dotsAtOnce 0 = .ok (.aload_n 0, 1) := by decide +kernel
theorem dX2_dotsAtOnce_1 : decode cX2_dotsAtOnce 1 = .ok (.getfield 21, 3) := by decide +kernel
theorem dX2_dotsAtOnce_4 : decode cX2_dotsAtOnce 4 = .ok (.iconst 3, 1) := by decide +kernel
theorem dX2_dotsAtOnce_5 : decode cX2_dotsAtOnce 5 = .ok (.invokestatic 59, 3) := by decide +kernel
theorem dX2_dotsAtOnce_8 : decode cX2_dotsAtOnce 8 = .ok (.istore_n 1, 1) := by decide +kernel
theorem dX2_dotsAtOnce_9 : decode cX2_dotsAtOnce 9 = .ok (.iload_n 1, 1) := by decide +kernel
theorem dX2_dotsAtOnce_10 : decode cX2_dotsAtOnce 10 = .ok (.iconst 1, 1) := by decide +kernel
theorem dX2_dotsAtOnce_11 : decode cX2_dotsAtOnce 11 = .ok (.if_icmp .ge 7, 3) := by decide +kernel
theorem dX2_dotsAtOnce_14 : decode cX2_dotsAtOnce 14 = .ok (.iconst 1, 1) := by decide +kernel
theorem dX2_dotsAtOnce_15 : decode cX2_dotsAtOnce 15 = .ok (.goto 17, 3) := by decide +kernel
theorem dX2_dotsAtOnce_18 : decode cX2_dotsAtOnce 18 = .ok (.iconst 1, 1) := by decide +kernel
theorem dX2_dotsAtOnce_19 : decode cX2_dotsAtOnce 19 = .ok (.aload_n 0, 1) := by decide +kernel
theorem dX2_dotsAtOnce_20 : decode cX2_dotsAtOnce 20 = .ok (.getfield 21, 3) := by decide +kernel
theorem dX2_dotsAtOnce_23 : decode cX2_dotsAtOnce 23 = .ok (.iconst 4, 1) := by decide +kernel
theorem dX2_dotsAtOnce_24 : decode cX2_dotsAtOnce 24 = .ok (.invokestatic 59, 3) := by decide +kernel
theorem dX2_dotsAtOnce_27 : decode cX2_dotsAtOnce 27 = .ok (.iload_n 1, 1) := by decide +kernel
theorem dX2_dotsAtOnce_28 : decode cX2_dotsAtOnce 28 = .ok (.idiv, 1) := by decide +kernel
theorem dX2_dotsAtOnce_29 : decode cX2_dotsAtOnce 29 = .ok (.invokestatic 114, 3) := by decide +kernel
theorem dX2_dotsAtOnce_32 : decode cX2_dotsAtOnce 32 = .ok (.ireturn, 1) := by decide +kernel
set_option maxHeartbeats 1000000 in
set_option maxRecDepth 100000 in
theorem c_X2_dotsAtOnce (l : Launch) (G : GT) (q : Nat → Nat) (v : SV) : Met l yX2_dotsAtOnce (Cond.code yX2_dotsAtOnce cX2_dotsAtOnce 2 (some .int) :: bigW) ({ frames := 1, cells := 0, slots := 0, locals := 24 }) (BP G [.ref (q 0)] (fun U H => PW G (stW G q v) H)) (QP (.int (fX2_dotsAtOnce v))) 0 0 (fun _ => False) := by
  refine met_of (by decide) (Nat.le_of_ble_eq_true rfl) ?_
  intro p e s m below meth c ls hC hKN hB0 hl
  have hP := hB0
  have hl : lv_has ls 2 [(0, .ref (q 0))] := hl
  have hg : fX2_dotsAtOnce v = fX2_dotsAtOnce v := rfl
  refine lv_aload_n hC.1 hC.2.1 dX2_dotsAtOnce_0 rfl (lv_at hl 0 rfl) ?_
  refine gf (v := .ref (q 3)) hC fwX2 hKN hP 0 rfl rfl 2 (by decide) rfl wd_110 rfl dX2_dotsAtOnce_1 ?_
  refine lv_iconst (v := 3) hC.1 hC.2.1 dX2_dotsAtOnce_4 (by decide) ?_
  refine runP (rSN (B := fun U H => RD (q 3) 7 (v 2) U H) (As := [.ref (q 3), .int 3]) (rest := []) hC mwX5_at (c_X5_at l G (q 3) 7 (v 2) 3) wd_328 (nm_1 hKN) ⟨rfl, rfl⟩ ⟨Nat.le_of_ble_eq_true rfl, Nat.le_of_ble_eq_true rfl⟩ (stb_RD _ _ _) hKN (RD.ofP hKN hP 3 rfl) rfl hl.1 rfl (Nat.le_of_ble_eq_true rfl) dX2_dotsAtOnce_5 ⟨Nat.zero_le _, Nat.zero_le _⟩) ?_
  refine lv_istore_n (lv' := [(1, .int (fX5_at 7 (v 2) 3)), (0, .ref (q 0))]) hC.1 hC.2.1 dX2_dotsAtOnce_8 rfl hl (by decide) rfl (fun ls hl => ?_)
  refine lv_iload_n hC.1 hC.2.1 dX2_dotsAtOnce_9 rfl (lv_at hl 0 rfl) ?_
  refine lv_iconst (v := 1) hC.1 hC.2.1 dX2_dotsAtOnce_10 (by decide) ?_
  refine lv_icmp_ge (tgt := 18) hC.1 hC.2.1 dX2_dotsAtOnce_11 (by decide) (fun k11 => ?_) (fun k11 => ?_)
  · refine lv_iconst (v := 1) hC.1 hC.2.1 dX2_dotsAtOnce_18 (by decide) ?_
    refine lv_aload_n hC.1 hC.2.1 dX2_dotsAtOnce_19 rfl (lv_at hl 1 rfl) ?_
    refine gf (v := .ref (q 3)) hC fwX2 hKN hP 0 rfl rfl 2 (by decide) rfl wd_110 rfl dX2_dotsAtOnce_20 ?_
    refine lv_iconst (v := 4) hC.1 hC.2.1 dX2_dotsAtOnce_23 (by decide) ?_
    refine runP (rSN (B := fun U H => RD (q 3) 7 (v 2) U H) (As := [.ref (q 3), .int 4]) (rest := [.int 1]) hC mwX5_at (c_X5_at l G (q 3) 7 (v 2) 4) wd_328 (nm_1 hKN) ⟨rfl, rfl⟩ ⟨Nat.le_of_ble_eq_true rfl, Nat.le_of_ble_eq_true rfl⟩ (stb_RD _ _ _) hKN (RD.ofP hKN hP 3 rfl) rfl hl.1 rfl (Nat.le_of_ble_eq_true rfl) dX2_dotsAtOnce_24 ⟨Nat.zero_le _, Nat.zero_le _⟩) ?_
    refine lv_iload_n hC.1 hC.2.1 dX2_dotsAtOnce_27 rfl (lv_at hl 0 rfl) ?_
    refine lv_idiv hC.1 hC.2.1 dX2_dotsAtOnce_28 (fun h => by rw [h] at k11; exact absurd k11 (by decide)) ?_
    refine va_mmax hC.1 hC.2.1 (hC.2.2.2.1.trans hl.1.symm) hC.2.2.2.2.1 (hC.2.2.2.2.2.2.1 _ wd_343) (hC.2.2.2.2.2.2.1 _ wd_344) (hC.2.2.2.2.2.2.1 _ wd_3) (hC.2.2.2.2.2.2.1 _ wd_345) (Nat.le_of_ble_eq_true rfl) (Nat.le_of_ble_eq_true rfl) (Nat.zero_le _) (Nat.zero_le _) dX2_dotsAtOnce_29 ?_
    have e_1 : fX2_dotsAtOnce v = (if 1 < ((fX5_at 7 (v 2) 4) / (fX5_at 7 (v 2) 3)) then ((fX5_at 7 (v 2) 4) / (fX5_at 7 (v 2) 3)) else 1) := by exact Eq.trans (if_pos k11) rfl
    have hg : fX2_dotsAtOnce v = (if 1 < ((fX5_at 7 (v 2) 4) / (fX5_at 7 (v 2) 3)) then ((fX5_at 7 (v 2) 4) / (fX5_at 7 (v 2) 3)) else 1) := hg.trans (congrArg (fun z => z) e_1)
    exact eP_i hC (congrArg Value.int hg) dX2_dotsAtOnce_32
  · refine lv_iconst (v := 1) hC.1 hC.2.1 dX2_dotsAtOnce_14 (by decide) ?_
    refine lv_goto (tgt := 32) hC.1 hC.2.1 dX2_dotsAtOnce_15 (by decide) ?_
    have e_2 : fX2_dotsAtOnce v = 1 := by exact Eq.trans (if_neg k11) rfl
    have hg : fX2_dotsAtOnce v = 1 := hg.trans (congrArg (fun z => z) e_2)
    exact eP_i hC (congrArg Value.int hg) dX2_dotsAtOnce_32

theorem dX2_pulseIn_0 : decode cX2_pulseIn 0 = .ok (.bipush 20, 2) := by decide +kernel
theorem dX2_pulseIn_2 : decode cX2_pulseIn 2 = .ok (.aload_n 0, 1) := by decide +kernel
theorem dX2_pulseIn_3 : decode cX2_pulseIn 3 = .ok (.getfield 42, 3) := by decide +kernel
theorem dX2_pulseIn_6 : decode cX2_pulseIn 6 = .ok (.iload_n 2, 1) := by decide +kernel
theorem dX2_pulseIn_7 : decode cX2_pulseIn 7 = .ok (.invokestatic 124, 3) := by decide +kernel
theorem dX2_pulseIn_10 : decode cX2_pulseIn 10 = .ok (.imul, 1) := by decide +kernel
theorem dX2_pulseIn_11 : decode cX2_pulseIn 11 = .ok (.bipush 10, 2) := by decide +kernel
theorem dX2_pulseIn_13 : decode cX2_pulseIn 13 = .ok (.aload_n 0, 1) := by decide +kernel
theorem dX2_pulseIn_14 : decode cX2_pulseIn 14 = .ok (.getfield 46, 3) := by decide +kernel
theorem dX2_pulseIn_17 : decode cX2_pulseIn 17 = .ok (.iload_n 2, 1) := by decide +kernel
theorem dX2_pulseIn_18 : decode cX2_pulseIn 18 = .ok (.invokestatic 124, 3) := by decide +kernel
theorem dX2_pulseIn_21 : decode cX2_pulseIn 21 = .ok (.imul, 1) := by decide +kernel
theorem dX2_pulseIn_22 : decode cX2_pulseIn 22 = .ok (.iadd, 1) := by decide +kernel
theorem dX2_pulseIn_23 : decode cX2_pulseIn 23 = .ok (.iconst 5, 1) := by decide +kernel
theorem dX2_pulseIn_24 : decode cX2_pulseIn 24 = .ok (.iload_n 1, 1) := by decide +kernel
theorem dX2_pulseIn_25 : decode cX2_pulseIn 25 = .ok (.iload_n 2, 1) := by decide +kernel
theorem dX2_pulseIn_26 : decode cX2_pulseIn 26 = .ok (.iconst 1, 1) := by decide +kernel
theorem dX2_pulseIn_27 : decode cX2_pulseIn 27 = .ok (.isub, 1) := by decide +kernel
theorem dX2_pulseIn_28 : decode cX2_pulseIn 28 = .ok (.invokestatic 124, 3) := by decide +kernel
theorem dX2_pulseIn_31 : decode cX2_pulseIn 31 = .ok (.iload_n 1, 1) := by decide +kernel
theorem dX2_pulseIn_32 : decode cX2_pulseIn 32 = .ok (.iload_n 2, 1) := by decide +kernel
theorem dX2_pulseIn_33 : decode cX2_pulseIn 33 = .ok (.iconst 1, 1) := by decide +kernel
theorem dX2_pulseIn_34 : decode cX2_pulseIn 34 = .ok (.iadd, 1) := by decide +kernel
theorem dX2_pulseIn_35 : decode cX2_pulseIn 35 = .ok (.invokestatic 124, 3) := by decide +kernel
theorem dX2_pulseIn_38 : decode cX2_pulseIn 38 = .ok (.iadd, 1) := by decide +kernel
theorem dX2_pulseIn_39 : decode cX2_pulseIn 39 = .ok (.imul, 1) := by decide +kernel
theorem dX2_pulseIn_40 : decode cX2_pulseIn 40 = .ok (.iadd, 1) := by decide +kernel
theorem dX2_pulseIn_41 : decode cX2_pulseIn 41 = .ok (.istore 4, 2) := by decide +kernel
theorem dX2_pulseIn_43 : decode cX2_pulseIn 43 = .ok (.bipush 20, 2) := by decide +kernel
theorem dX2_pulseIn_45 : decode cX2_pulseIn 45 = .ok (.iload_n 3, 1) := by decide +kernel
theorem dX2_pulseIn_46 : decode cX2_pulseIn 46 = .ok (.getstatic 137, 3) := by decide +kernel
theorem dX2_pulseIn_49 : decode cX2_pulseIn 49 = .ok (.aload_n 0, 1) := by decide +kernel
theorem dX2_pulseIn_50 : decode cX2_pulseIn 50 = .ok (.getfield 49, 3) := by decide +kernel
theorem dX2_pulseIn_53 : decode cX2_pulseIn 53 = .ok (.invokestatic 59, 3) := by decide +kernel
theorem dX2_pulseIn_56 : decode cX2_pulseIn 56 = .ok (.iadd, 1) := by decide +kernel
theorem dX2_pulseIn_57 : decode cX2_pulseIn 57 = .ok (.iload 4, 2) := by decide +kernel
theorem dX2_pulseIn_59 : decode cX2_pulseIn 59 = .ok (.isub, 1) := by decide +kernel
theorem dX2_pulseIn_60 : decode cX2_pulseIn 60 = .ok (.invokestatic 114, 3) := by decide +kernel
theorem dX2_pulseIn_63 : decode cX2_pulseIn 63 = .ok (.ireturn, 1) := by decide +kernel
set_option maxHeartbeats 1000000 in
set_option maxRecDepth 100000 in
theorem c_X2_pulseIn (l : Launch) (G : GT) (q : Nat → Nat) (v : SV) (x1 : Int32) (x2 : Int32) (x3 : Int32) : Met l yX2_pulseIn (Cond.code yX2_pulseIn cX2_pulseIn 5 (some .int) :: bigW) ({ frames := 1, cells := 0, slots := 0, locals := 24 }) (BP G [.ref (q 0), .int x1, .int x2, .int x3] (fun U H => PW G (stW G q v) H)) (QP (.int (fX2_pulseIn v x1 x2 x3))) 0 0 (fun _ => False) := by
  refine met_of (by decide) (Nat.le_of_ble_eq_true rfl) ?_
  intro p e s m below meth c ls hC hKN hB0 hl
  have hP := hB0
  have hl : lv_has ls 5 [(0, .ref (q 0)), (1, .int x1), (2, .int x2), (3, .int x3)] := hl
  have hg : fX2_pulseIn v x1 x2 x3 = fX2_pulseIn v x1 x2 x3 := rfl
  refine lv_bipush (v := 20) hC.1 hC.2.1 dX2_pulseIn_0 (by decide +kernel) ?_
  refine lv_aload_n hC.1 hC.2.1 dX2_pulseIn_2 rfl (lv_at hl 0 rfl) ?_
  refine gf (v := .int (v 8 8)) hC fwX2 hKN hP 0 rfl rfl 5 (by decide) rfl wd_115 rfl dX2_pulseIn_3 ?_
  refine lv_iload_n hC.1 hC.2.1 dX2_pulseIn_6 rfl (lv_at hl 2 rfl) ?_
  refine runP (rSN (B := fun U H => True) (As := [.int (v 8 8), .int x2]) (rest := [.int 20]) hC mwX5_bitOf (c_X5_bitOf l G (v 8 8) x2) wd_331 (nm_2 hKN) ⟨rfl, rfl⟩ ⟨Nat.le_of_ble_eq_true rfl, Nat.le_of_ble_eq_true rfl⟩ (fun _ _ _ _ h => h) hKN trivial rfl hl.1 rfl (Nat.le_of_ble_eq_true rfl) dX2_pulseIn_7 ⟨Nat.zero_le _, Nat.zero_le _⟩) ?_
  refine lv_imul hC.1 hC.2.1 dX2_pulseIn_10 ?_
  refine lv_bipush (v := 10) hC.1 hC.2.1 dX2_pulseIn_11 (by decide +kernel) ?_
  refine lv_aload_n hC.1 hC.2.1 dX2_pulseIn_13 rfl (lv_at hl 0 rfl) ?_
  refine gf (v := .int (v 8 9)) hC fwX2 hKN hP 0 rfl rfl 6 (by decide) rfl wd_116 rfl dX2_pulseIn_14 ?_
  refine lv_iload_n hC.1 hC.2.1 dX2_pulseIn_17 rfl (lv_at hl 2 rfl) ?_
  refine runP (rSN (B := fun U H => True) (As := [.int (v 8 9), .int x2]) (rest := [.int 10, .int (20 * (fX5_bitOf (v 8 8) x2))]) hC mwX5_bitOf (c_X5_bitOf l G (v 8 9) x2) wd_331 (nm_2 hKN) ⟨rfl, rfl⟩ ⟨Nat.le_of_ble_eq_true rfl, Nat.le_of_ble_eq_true rfl⟩ (fun _ _ _ _ h => h) hKN trivial rfl hl.1 rfl (Nat.le_of_ble_eq_true rfl) dX2_pulseIn_18 ⟨Nat.zero_le _, Nat.zero_le _⟩) ?_
  refine lv_imul hC.1 hC.2.1 dX2_pulseIn_21 ?_
  refine lv_iadd hC.1 hC.2.1 dX2_pulseIn_22 ?_
  refine lv_iconst (v := 5) hC.1 hC.2.1 dX2_pulseIn_23 (by decide) ?_
  refine lv_iload_n hC.1 hC.2.1 dX2_pulseIn_24 rfl (lv_at hl 1 rfl) ?_
  refine lv_iload_n hC.1 hC.2.1 dX2_pulseIn_25 rfl (lv_at hl 2 rfl) ?_
  refine lv_iconst (v := 1) hC.1 hC.2.1 dX2_pulseIn_26 (by decide) ?_
  refine lv_isub hC.1 hC.2.1 dX2_pulseIn_27 ?_
  refine runP (rSN (B := fun U H => True) (As := [.int x1, .int (x2 - 1)]) (rest := [.int 5, .int ((20 * (fX5_bitOf (v 8 8) x2)) + (10 * (fX5_bitOf (v 8 9) x2)))]) hC mwX5_bitOf (c_X5_bitOf l G x1 (x2 - 1)) wd_331 (nm_2 hKN) ⟨rfl, rfl⟩ ⟨Nat.le_of_ble_eq_true rfl, Nat.le_of_ble_eq_true rfl⟩ (fun _ _ _ _ h => h) hKN trivial rfl hl.1 rfl (Nat.le_of_ble_eq_true rfl) dX2_pulseIn_28 ⟨Nat.zero_le _, Nat.zero_le _⟩) ?_
  refine lv_iload_n hC.1 hC.2.1 dX2_pulseIn_31 rfl (lv_at hl 1 rfl) ?_
  refine lv_iload_n hC.1 hC.2.1 dX2_pulseIn_32 rfl (lv_at hl 2 rfl) ?_
  refine lv_iconst (v := 1) hC.1 hC.2.1 dX2_pulseIn_33 (by decide) ?_
  refine lv_iadd hC.1 hC.2.1 dX2_pulseIn_34 ?_
  refine runP (rSN (B := fun U H => True) (As := [.int x1, .int (x2 + 1)]) (rest := [.int (fX5_bitOf x1 (x2 - 1)), .int 5, .int ((20 * (fX5_bitOf (v 8 8) x2)) + (10 * (fX5_bitOf (v 8 9) x2)))]) hC mwX5_bitOf (c_X5_bitOf l G x1 (x2 + 1)) wd_331 (nm_2 hKN) ⟨rfl, rfl⟩ ⟨Nat.le_of_ble_eq_true rfl, Nat.le_of_ble_eq_true rfl⟩ (fun _ _ _ _ h => h) hKN trivial rfl hl.1 rfl (Nat.le_of_ble_eq_true rfl) dX2_pulseIn_35 ⟨Nat.zero_le _, Nat.zero_le _⟩) ?_
  refine lv_iadd hC.1 hC.2.1 dX2_pulseIn_38 ?_
  refine lv_imul hC.1 hC.2.1 dX2_pulseIn_39 ?_
  refine lv_iadd hC.1 hC.2.1 dX2_pulseIn_40 ?_
  refine lv_istore (lv' := [(4, .int (((20 * (fX5_bitOf (v 8 8) x2)) + (10 * (fX5_bitOf (v 8 9) x2))) + (5 * ((fX5_bitOf x1 (x2 - 1)) + (fX5_bitOf x1 (x2 + 1)))))), (0, .ref (q 0)), (1, .int x1), (2, .int x2), (3, .int x3)]) hC.1 hC.2.1 dX2_pulseIn_41 hl (by decide) rfl (fun ls hl => ?_)
  refine lv_bipush (v := 20) hC.1 hC.2.1 dX2_pulseIn_43 (by decide +kernel) ?_
  refine lv_iload_n hC.1 hC.2.1 dX2_pulseIn_45 rfl (lv_at hl 4 rfl) ?_
  refine gsN hC (hKN.2.2.1 3 (by decide)).1 (nf_18 hKN) dX2_pulseIn_46 ?_
  refine lv_aload_n hC.1 hC.2.1 dX2_pulseIn_49 rfl (lv_at hl 1 rfl) ?_
  refine gf (v := .int (v 8 10)) hC fwX2 hKN hP 0 rfl rfl 7 (by decide) rfl wd_117 rfl dX2_pulseIn_50 ?_
  refine runP (rSN (B := fun U H => RD (gA G 3) 3 st3 U H) (As := [.ref (gA G 3), .int (v 8 10)]) (rest := [.int x3, .int 20]) hC mwX5_at (c_X5_at l G (gA G 3) 3 st3 (v 8 10)) wd_328 (nm_1 hKN) ⟨rfl, rfl⟩ ⟨Nat.le_of_ble_eq_true rfl, Nat.le_of_ble_eq_true rfl⟩ (stb_RD _ _ _) hKN (hKN.rd 3 (by decide)) rfl hl.1 rfl (Nat.le_of_ble_eq_true rfl) dX2_pulseIn_53 ⟨Nat.zero_le _, Nat.zero_le _⟩) ?_
  refine lv_iadd hC.1 hC.2.1 dX2_pulseIn_56 ?_
  refine lv_iload hC.1 hC.2.1 dX2_pulseIn_57 (lv_at hl 0 rfl) ?_
  refine lv_isub hC.1 hC.2.1 dX2_pulseIn_59 ?_
  refine va_mmax hC.1 hC.2.1 (hC.2.2.2.1.trans hl.1.symm) hC.2.2.2.2.1 (hC.2.2.2.2.2.2.1 _ wd_343) (hC.2.2.2.2.2.2.1 _ wd_344) (hC.2.2.2.2.2.2.1 _ wd_3) (hC.2.2.2.2.2.2.1 _ wd_345) (Nat.le_of_ble_eq_true rfl) (Nat.le_of_ble_eq_true rfl) (Nat.zero_le _) (Nat.zero_le _) dX2_pulseIn_60 ?_
  have e_1 : fX2_pulseIn v x1 x2 x3 = (if 20 < ((x3 + (fX5_at 3 st3 (v 8 10))) - (((20 * (fX5_bitOf (v 8 8) x2)) + (10 * (fX5_bitOf (v 8 9) x2))) + (5 * ((fX5_bitOf x1 (x2 - 1)) + (fX5_bitOf x1 (x2 + 1)))))) then ((x3 + (fX5_at 3 st3 (v 8 10))) - (((20 * (fX5_bitOf (v 8 8) x2)) + (10 * (fX5_bitOf (v 8 9) x2))) + (5 * ((fX5_bitOf x1 (x2 - 1)) + (fX5_bitOf x1 (x2 + 1)))))) else 20) := by exact rfl
  have hg : fX2_pulseIn v x1 x2 x3 = (if 20 < ((x3 + (fX5_at 3 st3 (v 8 10))) - (((20 * (fX5_bitOf (v 8 8) x2)) + (10 * (fX5_bitOf (v 8 9) x2))) + (5 * ((fX5_bitOf x1 (x2 - 1)) + (fX5_bitOf x1 (x2 + 1)))))) then ((x3 + (fX5_at 3 st3 (v 8 10))) - (((20 * (fX5_bitOf (v 8 8) x2)) + (10 * (fX5_bitOf (v 8 9) x2))) + (5 * ((fX5_bitOf x1 (x2 - 1)) + (fX5_bitOf x1 (x2 + 1)))))) else 20) := hg.trans (congrArg (fun z => z) e_1)
  exact eP_i hC (congrArg Value.int hg) dX2_pulseIn_63

theorem dX2_pulseAlone_0 : decode cX2_pulseAlone 0 = .ok (.aload_n 0, 1) := by decide +kernel
theorem dX2_pulseAlone_1 : decode cX2_pulseAlone 1 = .ok (.iconst 0, 1) := by decide +kernel
theorem dX2_pulseAlone_2 : decode cX2_pulseAlone 2 = .ok (.iload_n 1, 1) := by decide +kernel
theorem dX2_pulseAlone_3 : decode cX2_pulseAlone 3 = .ok (.iload_n 2, 1) := by decide +kernel
theorem dX2_pulseAlone_4 : decode cX2_pulseAlone 4 = .ok (.invokevirtual 120, 3) := by decide +kernel
theorem dX2_pulseAlone_7 : decode cX2_pulseAlone 7 = .ok (.ireturn, 1) := by decide +kernel
set_option maxHeartbeats 1000000 in
set_option maxRecDepth 100000 in
theorem c_X2_pulseAlone (l : Launch) (G : GT) (q : Nat → Nat) (v : SV) (x1 : Int32) (x2 : Int32) : Met l yX2_pulseAlone (Cond.code yX2_pulseAlone cX2_pulseAlone 3 (some .int) :: bigW) ({ frames := 2, cells := 0, slots := 0, locals := 48 }) (BP G [.ref (q 0), .int x1, .int x2] (fun U H => PW G (stW G q v) H)) (QP (.int (fX2_pulseAlone v x1 x2))) 0 0 (fun _ => False) := by
  refine met_of (by decide) (Nat.le_of_ble_eq_true rfl) ?_
  intro p e s m below meth c ls hC hKN hB0 hl
  have hP := hB0
  have hl : lv_has ls 3 [(0, .ref (q 0)), (1, .int x1), (2, .int x2)] := hl
  have hg : fX2_pulseAlone v x1 x2 = fX2_pulseAlone v x1 x2 := rfl
  refine lv_aload_n hC.1 hC.2.1 dX2_pulseAlone_0 rfl (lv_at hl 0 rfl) ?_
  refine lv_iconst (v := 0) hC.1 hC.2.1 dX2_pulseAlone_1 (by decide) ?_
  refine lv_iload_n hC.1 hC.2.1 dX2_pulseAlone_2 rfl (lv_at hl 1 rfl) ?_
  refine lv_iload_n hC.1 hC.2.1 dX2_pulseAlone_3 rfl (lv_at hl 2 rfl) ?_
  refine runP (rV (B := fun U H => PW G (stW G q v) H) (As := [.int 0, .int x1, .int x2]) (rest := []) hC mwX2_pulseIn (c_X2_pulseIn l G q v 0 x1 x2) iwX2_pulseIn wd_337 ⟨rfl, rfl⟩ ⟨Nat.le_of_ble_eq_true rfl, Nat.le_of_ble_eq_true rfl⟩ (stb_h (fun H => PW G (stW G q v) H)) hKN hP (va_recv hKN.k hP (ci := 2) (q0 := 0) rfl rfl) rfl hl.1 rfl (Nat.le_of_ble_eq_true rfl) dX2_pulseAlone_4 ⟨Nat.zero_le _, Nat.zero_le _⟩) ?_
  have e_1 : fX2_pulseAlone v x1 x2 = fX2_pulseIn v 0 x1 x2 := by exact rfl
  have hg : fX2_pulseAlone v x1 x2 = fX2_pulseIn v 0 x1 x2 := hg.trans (congrArg (fun z => z) e_1)
  exact eP_i hC (congrArg Value.int hg) dX2_pulseAlone_7

theorem dX2_cooledFor_0 : decode cX2_cooledFor 0 = .ok (.aload_n 0, 1) := by decide +kernel
theorem dX2_cooledFor_1 : decode cX2_cooledFor 1 = .ok (.getfield 21, 3) := by decide +kernel
theorem dX2_cooledFor_4 : decode cX2_cooledFor 4 = .ok (.iconst 1, 1) := by decide +kernel
theorem dX2_cooledFor_5 : decode cX2_cooledFor 5 = .ok (.invokestatic 59, 3) := by decide +kernel
theorem dX2_cooledFor_8 : decode cX2_cooledFor 8 = .ok (.istore_n 3, 1) := by decide +kernel
theorem dX2_cooledFor_9 : decode cX2_cooledFor 9 = .ok (.iload_n 1, 1) := by decide +kernel
theorem dX2_cooledFor_10 : decode cX2_cooledFor 10 = .ok (.istore 4, 2) := by decide +kernel
theorem dX2_cooledFor_12 : decode cX2_cooledFor 12 = .ok (.iconst 0, 1) := by decide +kernel
theorem dX2_cooledFor_13 : decode cX2_cooledFor 13 = .ok (.istore 5, 2) := by decide +kernel
theorem dX2_cooledFor_15 : decode cX2_cooledFor 15 = .ok (.iload 5, 2) := by decide +kernel
theorem dX2_cooledFor_17 : decode cX2_cooledFor 17 = .ok (.iload_n 2, 1) := by decide +kernel
theorem dX2_cooledFor_18 : decode cX2_cooledFor 18 = .ok (.if_icmp .ge 22, 3) := by decide +kernel
theorem dX2_cooledFor_21 : decode cX2_cooledFor 21 = .ok (.iload 4, 2) := by decide +kernel
theorem dX2_cooledFor_23 : decode cX2_cooledFor 23 = .ok (.ifCond .le 17, 3) := by decide +kernel
theorem dX2_cooledFor_26 : decode cX2_cooledFor 26 = .ok (.iload 4, 2) := by decide +kernel
theorem dX2_cooledFor_28 : decode cX2_cooledFor 28 = .ok (.iload_n 3, 1) := by decide +kernel
theorem dX2_cooledFor_29 : decode cX2_cooledFor 29 = .ok (.invokestatic 146, 3) := by decide +kernel
theorem dX2_cooledFor_32 : decode cX2_cooledFor 32 = .ok (.istore 4, 2) := by decide +kernel
theorem dX2_cooledFor_34 : decode cX2_cooledFor 34 = .ok (.iinc 5 1, 3) := by decide +kernel
theorem dX2_cooledFor_37 : decode cX2_cooledFor 37 = .ok (.goto (-22), 3) := by decide +kernel
theorem dX2_cooledFor_40 : decode cX2_cooledFor 40 = .ok (.iload 4, 2) := by decide +kernel
theorem dX2_cooledFor_42 : decode cX2_cooledFor 42 = .ok (.ireturn, 1) := by decide +kernel
set_option maxHeartbeats 1000000 in
set_option maxRecDepth 100000 in
theorem c_X2_cooledFor (l : Launch) (G : GT) (q : Nat → Nat) (v : SV) (x1 : Int32) (x2 : Int32) : Met l yX2_cooledFor (Cond.code yX2_cooledFor cX2_cooledFor 6 (some .int) :: bigW) ({ frames := 1, cells := 0, slots := 0, locals := 22 }) (BP G [.ref (q 0), .int x1, .int x2] (fun U H => PW G (stW G q v) H)) (QP (.int (fX2_cooledFor v x1 x2))) 0 0 (fun _ => False) := by
  refine met_of (by decide) (Nat.le_of_ble_eq_true rfl) ?_
  intro p e s m below meth c ls hC hKN hB0 hl
  have hP := hB0
  have hl : lv_has ls 6 [(0, .ref (q 0)), (1, .int x1), (2, .int x2)] := hl
  have hg : fX2_cooledFor v x1 x2 = fX2_cooledFor v x1 x2 := rfl
  refine lv_aload_n hC.1 hC.2.1 dX2_cooledFor_0 rfl (lv_at hl 0 rfl) ?_
  refine gf (v := .ref (q 3)) hC fwX2 hKN hP 0 rfl rfl 2 (by decide) rfl wd_110 rfl dX2_cooledFor_1 ?_
  refine lv_iconst (v := 1) hC.1 hC.2.1 dX2_cooledFor_4 (by decide) ?_
  refine runP (rSN (B := fun U H => RD (q 3) 7 (v 2) U H) (As := [.ref (q 3), .int 1]) (rest := []) hC mwX5_at (c_X5_at l G (q 3) 7 (v 2) 1) wd_328 (nm_1 hKN) ⟨rfl, rfl⟩ ⟨Nat.le_of_ble_eq_true rfl, Nat.le_of_ble_eq_true rfl⟩ (stb_RD _ _ _) hKN (RD.ofP hKN hP 3 rfl) rfl hl.1 rfl (Nat.le_of_ble_eq_true rfl) dX2_cooledFor_5 ⟨Nat.zero_le _, Nat.zero_le _⟩) ?_
  refine lv_istore_n (lv' := [(3, .int (fX5_at 7 (v 2) 1)), (0, .ref (q 0)), (1, .int x1), (2, .int x2)]) hC.1 hC.2.1 dX2_cooledFor_8 rfl hl (by decide) rfl (fun ls hl => ?_)
  refine lv_iload_n hC.1 hC.2.1 dX2_cooledFor_9 rfl (lv_at hl 2 rfl) ?_
  refine lv_istore (lv' := [(4, .int x1), (3, .int (fX5_at 7 (v 2) 1)), (0, .ref (q 0)), (1, .int x1), (2, .int x2)]) hC.1 hC.2.1 dX2_cooledFor_10 hl (by decide) rfl (fun ls hl => ?_)
  refine lv_iconst (v := 0) hC.1 hC.2.1 dX2_cooledFor_12 (by decide) ?_
  refine lv_istore (lv' := [(5, .int 0), (4, .int x1), (3, .int (fX5_at 7 (v 2) 1)), (0, .ref (q 0)), (1, .int x1), (2, .int x2)]) hC.1 hC.2.1 dX2_cooledFor_13 hl (by decide) rfl (fun ls hl => ?_)
  have A15 : ∀ (y3_15 : Int32), ∀ (y4_15 : Int32) (y5_15 : Int32), fX2_cooledFor v x1 x2 = (tX2_cooledFor_15 v x1 x2 y3_15 (y4_15, y5_15)) → ∀ (ls : Array Slot), lv_has ls 6 [(4, .int y4_15)] → W p l e ({ frames := 1, cells := 0, slots := 0, locals := 22 }) s m ([.ref (q 0), .int x1, .int x2] : List Value).toArray below meth c s.heap [] 0 0 (MQ below (QP (.int (fX2_cooledFor v x1 x2))) ([.ref (q 0), .int x1, .int x2] : List Value).toArray s 0 0 (fun _ => False)) (F0 m 40 ls []) := by
    intro y3_15 y4_15 y5_15 hg ls hl
    refine lv_iload hC.1 hC.2.1 dX2_cooledFor_40 (lv_at hl 0 rfl) ?_
    have e_1 : tX2_cooledFor_15 v x1 x2 y3_15 (y4_15, y5_15) = y4_15 := by exact rfl
    have hg : fX2_cooledFor v x1 x2 = y4_15 := hg.trans (congrArg (fun z => z) e_1)
    exact eP_i hC (congrArg Value.int hg) dX2_cooledFor_42
  have L15 : ∀ (y3_15 : Int32), ∀ (n15 : Nat), ∀ (y4_15 : Int32) (y5_15 : Int32), lpT n15 (bX2_cooledFor_15 v x1 x2 y3_15) (y4_15, y5_15) → fX2_cooledFor v x1 x2 = (tX2_cooledFor_15 v x1 x2 y3_15 (lpB n15 (bX2_cooledFor_15 v x1 x2 y3_15) (y4_15, y5_15))) → ∀ (ls : Array Slot), lv_has ls 6 [(2, .int x2), (3, .int y3_15), (4, .int y4_15), (5, .int y5_15)] → W p l e ({ frames := 1, cells := 0, slots := 0, locals := 22 }) s m ([.ref (q 0), .int x1, .int x2] : List Value).toArray below meth c s.heap [] 0 0 (MQ below (QP (.int (fX2_cooledFor v x1 x2))) ([.ref (q 0), .int x1, .int x2] : List Value).toArray s 0 0 (fun _ => False)) (F0 m 15 ls []) := by
    intro y3_15
    intro n15
    induction n15 with
    | zero =>
      intro y4_15 y5_15 hT
      exact hT.elim
    | succ n15 ih =>
      intro y4_15 y5_15 hT hg ls hl
      have hg : fX2_cooledFor v x1 x2 = (tX2_cooledFor_15 v x1 x2 y3_15 (lpBs n15 (bX2_cooledFor_15 v x1 x2 y3_15) (bX2_cooledFor_15 v x1 x2 y3_15 (y4_15, y5_15)))) := hg
      have hT : lpTs n15 (bX2_cooledFor_15 v x1 x2 y3_15) (bX2_cooledFor_15 v x1 x2 y3_15 (y4_15, y5_15)) := hT
      refine lv_iload hC.1 hC.2.1 dX2_cooledFor_15 (lv_at hl 3 rfl) ?_
      refine lv_iload_n hC.1 hC.2.1 dX2_cooledFor_17 rfl (lv_at hl 0 rfl) ?_
      refine lv_icmp_ge (tgt := 40) hC.1 hC.2.1 dX2_cooledFor_18 (by decide) (fun k18 => ?_) (fun k18 => ?_)
      · have e_2 : bX2_cooledFor_15 v x1 x2 y3_15 (y4_15, y5_15) = (false, (y4_15, y5_15)) := by exact Eq.trans (if_pos k18) rfl
        have hg : fX2_cooledFor v x1 x2 = (tX2_cooledFor_15 v x1 x2 y3_15 (y4_15, y5_15)) := hg.trans (congrArg (fun z => (tX2_cooledFor_15 v x1 x2 y3_15 (lpBs n15 (bX2_cooledFor_15 v x1 x2 y3_15) z))) e_2)
        have hT : lpTs n15 (bX2_cooledFor_15 v x1 x2 y3_15) (false, (y4_15, y5_15)) := by rw [← e_2]; exact hT
        exact A15 y3_15 y4_15 y5_15 hg _ (lv_sub hl [2] rfl)
      · refine lv_iload hC.1 hC.2.1 dX2_cooledFor_21 (lv_at hl 2 rfl) ?_
        refine lv_if_le (tgt := 40) hC.1 hC.2.1 dX2_cooledFor_23 (by decide) (fun k23 => ?_) (fun k23 => ?_)
        · have e_3 : bX2_cooledFor_15 v x1 x2 y3_15 (y4_15, y5_15) = (false, (y4_15, y5_15)) := by exact Eq.trans (if_neg k18) (Eq.trans (if_pos k23) rfl)
          have hg : fX2_cooledFor v x1 x2 = (tX2_cooledFor_15 v x1 x2 y3_15 (y4_15, y5_15)) := hg.trans (congrArg (fun z => (tX2_cooledFor_15 v x1 x2 y3_15 (lpBs n15 (bX2_cooledFor_15 v x1 x2 y3_15) z))) e_3)
          have hT : lpTs n15 (bX2_cooledFor_15 v x1 x2 y3_15) (false, (y4_15, y5_15)) := by rw [← e_3]; exact hT
          exact A15 y3_15 y4_15 y5_15 hg _ (lv_sub hl [2] rfl)
        · refine lv_iload hC.1 hC.2.1 dX2_cooledFor_26 (lv_at hl 2 rfl) ?_
          refine lv_iload_n hC.1 hC.2.1 dX2_cooledFor_28 rfl (lv_at hl 1 rfl) ?_
          refine runP (rS (B := fun U H => True) (As := [.int y4_15, .int y3_15]) (rest := []) hC mwX2_cooled (c_X2_cooled l G y4_15 y3_15) wd_356 wd_355 ⟨rfl, rfl⟩ ⟨Nat.le_of_ble_eq_true rfl, Nat.le_of_ble_eq_true rfl⟩ (fun _ _ _ _ h => h) hKN trivial rfl hl.1 rfl (Nat.le_of_ble_eq_true rfl) dX2_cooledFor_29 ⟨Nat.zero_le _, Nat.zero_le _⟩) ?_
          refine lv_istore (lv' := [(4, .int (fX2_cooled y4_15 y3_15)), (2, .int x2), (3, .int y3_15), (5, .int y5_15)]) hC.1 hC.2.1 dX2_cooledFor_32 hl (by decide) rfl (fun ls hl => ?_)
          refine lv_iinc (v := y5_15 + 1) (lv' := [(5, .int (y5_15 + 1)), (4, .int (fX2_cooled y4_15 y3_15)), (2, .int x2), (3, .int y3_15)]) hC.1 hC.2.1 dX2_cooledFor_34 hl (k := 3) rfl rfl (by decide) rfl (fun ls hl => ?_)
          refine lv_goto (tgt := 15) hC.1 hC.2.1 dX2_cooledFor_37 (by decide) ?_
          have e_4 : bX2_cooledFor_15 v x1 x2 y3_15 (y4_15, y5_15) = (true, (fX2_cooled y4_15 y3_15, y5_15 + 1)) := by exact Eq.trans (if_neg k18) (Eq.trans (if_neg k23) rfl)
          have hg : fX2_cooledFor v x1 x2 = (tX2_cooledFor_15 v x1 x2 y3_15 (lpB n15 (bX2_cooledFor_15 v x1 x2 y3_15) (fX2_cooled y4_15 y3_15, y5_15 + 1))) := hg.trans (congrArg (fun z => (tX2_cooledFor_15 v x1 x2 y3_15 (lpBs n15 (bX2_cooledFor_15 v x1 x2 y3_15) z))) e_4)
          have hT : lpTs n15 (bX2_cooledFor_15 v x1 x2 y3_15) (true, (fX2_cooled y4_15 y3_15, y5_15 + 1)) := by rw [← e_4]; exact hT
          exact ih (fX2_cooled y4_15 y3_15) (y5_15 + 1) (lpT_go hT) hg _ (lv_sub hl [2, 3, 1, 0] rfl)
  have e_5 : fX2_cooledFor v x1 x2 = tX2_cooledFor_15 v x1 x2 (fX5_at 7 (v 2) 1) (lpB (x2.toNatClampNeg + 1) (bX2_cooledFor_15 v x1 x2 (fX5_at 7 (v 2) 1)) (x1, 0)) := by exact rfl
  have hg : fX2_cooledFor v x1 x2 = (tX2_cooledFor_15 v x1 x2 (fX5_at 7 (v 2) 1) (lpB (x2.toNatClampNeg + 1) (bX2_cooledFor_15 v x1 x2 (fX5_at 7 (v 2) 1)) (x1, 0))) := hg.trans (congrArg (fun z => z) e_5)
  exact L15 (fX5_at 7 (v 2) 1) (x2.toNatClampNeg + 1) x1 0 (T_cooledFor v x1 x2 _ _) hg _ (lv_sub hl [5, 2, 1, 0] rfl)

theorem dX2_timeDownTo_0 : decode cX2_timeDownTo 0 = .ok (.aload_n 0, 1) := by decide +kernel
theorem dX2_timeDownTo_1 : decode cX2_timeDownTo 1 = .ok (.getfield 21, 3) := by decide +kernel
theorem dX2_timeDownTo_4 : decode cX2_timeDownTo 4 = .ok (.iconst 1, 1) := by decide +kernel
theorem dX2_timeDownTo_5 : decode cX2_timeDownTo 5 = .ok (.invokestatic 59, 3) := by decide +kernel
theorem dX2_timeDownTo_8 : decode cX2_timeDownTo 8 = .ok (.istore_n 3, 1) := by decide +kernel
theorem dX2_timeDownTo_9 : decode cX2_timeDownTo 9 = .ok (.iload_n 1, 1) := by decide +kernel
theorem dX2_timeDownTo_10 : decode cX2_timeDownTo 10 = .ok (.istore 4, 2) := by decide +kernel
theorem dX2_timeDownTo_12 : decode cX2_timeDownTo 12 = .ok (.iconst 0, 1) := by decide +kernel
theorem dX2_timeDownTo_13 : decode cX2_timeDownTo 13 = .ok (.istore 5, 2) := by decide +kernel
theorem dX2_timeDownTo_15 : decode cX2_timeDownTo 15 = .ok (.iload 4, 2) := by decide +kernel
theorem dX2_timeDownTo_17 : decode cX2_timeDownTo 17 = .ok (.iload_n 2, 1) := by decide +kernel
theorem dX2_timeDownTo_18 : decode cX2_timeDownTo 18 = .ok (.if_icmp .le 24, 3) := by decide +kernel
theorem dX2_timeDownTo_21 : decode cX2_timeDownTo 21 = .ok (.iload 5, 2) := by decide +kernel
theorem dX2_timeDownTo_23 : decode cX2_timeDownTo 23 = .ok (.ldc 149, 2) := by decide +kernel
theorem dX2_timeDownTo_25 : decode cX2_timeDownTo 25 = .ok (.if_icmp .ge 17, 3) := by decide +kernel
theorem dX2_timeDownTo_28 : decode cX2_timeDownTo 28 = .ok (.iload 4, 2) := by decide +kernel
theorem dX2_timeDownTo_30 : decode cX2_timeDownTo 30 = .ok (.iload_n 3, 1) := by decide +kernel
theorem dX2_timeDownTo_31 : decode cX2_timeDownTo 31 = .ok (.invokestatic 146, 3) := by decide +kernel
theorem dX2_timeDownTo_34 : decode cX2_timeDownTo 34 = .ok (.istore 4, 2) := by decide +kernel
theorem dX2_timeDownTo_36 : decode cX2_timeDownTo 36 = .ok (.iinc 5 1, 3) := by decide +kernel
theorem dX2_timeDownTo_39 : decode cX2_timeDownTo 39 = .ok (.goto (-24), 3) := by decide +kernel
theorem dX2_timeDownTo_42 : decode cX2_timeDownTo 42 = .ok (.iload 5, 2) := by decide +kernel
theorem dX2_timeDownTo_44 : decode cX2_timeDownTo 44 = .ok (.ireturn, 1) := by decide +kernel
set_option maxHeartbeats 1000000 in
set_option maxRecDepth 100000 in
theorem c_X2_timeDownTo (l : Launch) (G : GT) (q : Nat → Nat) (v : SV) (x1 : Int32) (x2 : Int32) : Met l yX2_timeDownTo (Cond.code yX2_timeDownTo cX2_timeDownTo 6 (some .int) :: bigW) ({ frames := 1, cells := 0, slots := 0, locals := 22 }) (BP G [.ref (q 0), .int x1, .int x2] (fun U H => PW G (stW G q v) H)) (QP (.int (fX2_timeDownTo v x1 x2))) 0 0 (fun _ => False) := by
  refine met_of (by decide) (Nat.le_of_ble_eq_true rfl) ?_
  intro p e s m below meth c ls hC hKN hB0 hl
  have hP := hB0
  have hl : lv_has ls 6 [(0, .ref (q 0)), (1, .int x1), (2, .int x2)] := hl
  have hg : fX2_timeDownTo v x1 x2 = fX2_timeDownTo v x1 x2 := rfl
  refine lv_aload_n hC.1 hC.2.1 dX2_timeDownTo_0 rfl (lv_at hl 0 rfl) ?_
  refine gf (v := .ref (q 3)) hC fwX2 hKN hP 0 rfl rfl 2 (by decide) rfl wd_110 rfl dX2_timeDownTo_1 ?_
  refine lv_iconst (v := 1) hC.1 hC.2.1 dX2_timeDownTo_4 (by decide) ?_
  refine runP (rSN (B := fun U H => RD (q 3) 7 (v 2) U H) (As := [.ref (q 3), .int 1]) (rest := []) hC mwX5_at (c_X5_at l G (q 3) 7 (v 2) 1) wd_328 (nm_1 hKN) ⟨rfl, rfl⟩ ⟨Nat.le_of_ble_eq_true rfl, Nat.le_of_ble_eq_true rfl⟩ (stb_RD _ _ _) hKN (RD.ofP hKN hP 3 rfl) rfl hl.1 rfl (Nat.le_of_ble_eq_true rfl) dX2_timeDownTo_5 ⟨Nat.zero_le _, Nat.zero_le _⟩) ?_
  refine lv_istore_n (lv' := [(3, .int (fX5_at 7 (v 2) 1)), (0, .ref (q 0)), (1, .int x1), (2, .int x2)]) hC.1 hC.2.1 dX2_timeDownTo_8 rfl hl (by decide) rfl (fun ls hl => ?_)
  refine lv_iload_n hC.1 hC.2.1 dX2_timeDownTo_9 rfl (lv_at hl 2 rfl) ?_
  refine lv_istore (lv' := [(4, .int x1), (3, .int (fX5_at 7 (v 2) 1)), (0, .ref (q 0)), (1, .int x1), (2, .int x2)]) hC.1 hC.2.1 dX2_timeDownTo_10 hl (by decide) rfl (fun ls hl => ?_)
  refine lv_iconst (v := 0) hC.1 hC.2.1 dX2_timeDownTo_12 (by decide) ?_
  refine lv_istore (lv' := [(5, .int 0), (4, .int x1), (3, .int (fX5_at 7 (v 2) 1)), (0, .ref (q 0)), (1, .int x1), (2, .int x2)]) hC.1 hC.2.1 dX2_timeDownTo_13 hl (by decide) rfl (fun ls hl => ?_)
  have A15 : ∀ (y3_15 : Int32), ∀ (y4_15 : Int32) (y5_15 : Int32), fX2_timeDownTo v x1 x2 = (tX2_timeDownTo_15 v x1 x2 y3_15 (y4_15, y5_15)) → ∀ (ls : Array Slot), lv_has ls 6 [(5, .int y5_15)] → W p l e ({ frames := 1, cells := 0, slots := 0, locals := 22 }) s m ([.ref (q 0), .int x1, .int x2] : List Value).toArray below meth c s.heap [] 0 0 (MQ below (QP (.int (fX2_timeDownTo v x1 x2))) ([.ref (q 0), .int x1, .int x2] : List Value).toArray s 0 0 (fun _ => False)) (F0 m 42 ls []) := by
    intro y3_15 y4_15 y5_15 hg ls hl
    refine lv_iload hC.1 hC.2.1 dX2_timeDownTo_42 (lv_at hl 0 rfl) ?_
    have e_1 : tX2_timeDownTo_15 v x1 x2 y3_15 (y4_15, y5_15) = y5_15 := by exact rfl
    have hg : fX2_timeDownTo v x1 x2 = y5_15 := hg.trans (congrArg (fun z => z) e_1)
    exact eP_i hC (congrArg Value.int hg) dX2_timeDownTo_44
  have L15 : ∀ (y3_15 : Int32), ∀ (n15 : Nat), ∀ (y4_15 : Int32) (y5_15 : Int32), lpT n15 (bX2_timeDownTo_15 v x1 x2 y3_15) (y4_15, y5_15) → fX2_timeDownTo v x1 x2 = (tX2_timeDownTo_15 v x1 x2 y3_15 (lpB n15 (bX2_timeDownTo_15 v x1 x2 y3_15) (y4_15, y5_15))) → ∀ (ls : Array Slot), lv_has ls 6 [(2, .int x2), (3, .int y3_15), (4, .int y4_15), (5, .int y5_15)] → W p l e ({ frames := 1, cells := 0, slots := 0, locals := 22 }) s m ([.ref (q 0), .int x1, .int x2] : List Value).toArray below meth c s.heap [] 0 0 (MQ below (QP (.int (fX2_timeDownTo v x1 x2))) ([.ref (q 0), .int x1, .int x2] : List Value).toArray s 0 0 (fun _ => False)) (F0 m 15 ls []) := by
    intro y3_15
    intro n15
    induction n15 with
    | zero =>
      intro y4_15 y5_15 hT
      exact hT.elim
    | succ n15 ih =>
      intro y4_15 y5_15 hT hg ls hl
      have hg : fX2_timeDownTo v x1 x2 = (tX2_timeDownTo_15 v x1 x2 y3_15 (lpBs n15 (bX2_timeDownTo_15 v x1 x2 y3_15) (bX2_timeDownTo_15 v x1 x2 y3_15 (y4_15, y5_15)))) := hg
      have hT : lpTs n15 (bX2_timeDownTo_15 v x1 x2 y3_15) (bX2_timeDownTo_15 v x1 x2 y3_15 (y4_15, y5_15)) := hT
      refine lv_iload hC.1 hC.2.1 dX2_timeDownTo_15 (lv_at hl 2 rfl) ?_
      refine lv_iload_n hC.1 hC.2.1 dX2_timeDownTo_17 rfl (lv_at hl 0 rfl) ?_
      refine lv_icmp_le (tgt := 42) hC.1 hC.2.1 dX2_timeDownTo_18 (by decide) (fun k18 => ?_) (fun k18 => ?_)
      · have e_2 : bX2_timeDownTo_15 v x1 x2 y3_15 (y4_15, y5_15) = (false, (y4_15, y5_15)) := by exact Eq.trans (if_pos k18) rfl
        have hg : fX2_timeDownTo v x1 x2 = (tX2_timeDownTo_15 v x1 x2 y3_15 (y4_15, y5_15)) := hg.trans (congrArg (fun z => (tX2_timeDownTo_15 v x1 x2 y3_15 (lpBs n15 (bX2_timeDownTo_15 v x1 x2 y3_15) z))) e_2)
        have hT : lpTs n15 (bX2_timeDownTo_15 v x1 x2 y3_15) (false, (y4_15, y5_15)) := by rw [← e_2]; exact hT
        exact A15 y3_15 y4_15 y5_15 hg _ (lv_sub hl [3] rfl)
      · refine lv_iload hC.1 hC.2.1 dX2_timeDownTo_21 (lv_at hl 3 rfl) ?_
        refine lv_ldc (v := 1000000) hC.1 hC.2.1 hC.2.2.2.2.1 (hC.2.2.2.2.2.2.1 _ wd_354) dX2_timeDownTo_23 ?_
        refine lv_icmp_ge (tgt := 42) hC.1 hC.2.1 dX2_timeDownTo_25 (by decide) (fun k25 => ?_) (fun k25 => ?_)
        · have e_3 : bX2_timeDownTo_15 v x1 x2 y3_15 (y4_15, y5_15) = (false, (y4_15, y5_15)) := by exact Eq.trans (if_neg k18) (Eq.trans (if_pos k25) rfl)
          have hg : fX2_timeDownTo v x1 x2 = (tX2_timeDownTo_15 v x1 x2 y3_15 (y4_15, y5_15)) := hg.trans (congrArg (fun z => (tX2_timeDownTo_15 v x1 x2 y3_15 (lpBs n15 (bX2_timeDownTo_15 v x1 x2 y3_15) z))) e_3)
          have hT : lpTs n15 (bX2_timeDownTo_15 v x1 x2 y3_15) (false, (y4_15, y5_15)) := by rw [← e_3]; exact hT
          exact A15 y3_15 y4_15 y5_15 hg _ (lv_sub hl [3] rfl)
        · refine lv_iload hC.1 hC.2.1 dX2_timeDownTo_28 (lv_at hl 2 rfl) ?_
          refine lv_iload_n hC.1 hC.2.1 dX2_timeDownTo_30 rfl (lv_at hl 1 rfl) ?_
          refine runP (rS (B := fun U H => True) (As := [.int y4_15, .int y3_15]) (rest := []) hC mwX2_cooled (c_X2_cooled l G y4_15 y3_15) wd_356 wd_355 ⟨rfl, rfl⟩ ⟨Nat.le_of_ble_eq_true rfl, Nat.le_of_ble_eq_true rfl⟩ (fun _ _ _ _ h => h) hKN trivial rfl hl.1 rfl (Nat.le_of_ble_eq_true rfl) dX2_timeDownTo_31 ⟨Nat.zero_le _, Nat.zero_le _⟩) ?_
          refine lv_istore (lv' := [(4, .int (fX2_cooled y4_15 y3_15)), (2, .int x2), (3, .int y3_15), (5, .int y5_15)]) hC.1 hC.2.1 dX2_timeDownTo_34 hl (by decide) rfl (fun ls hl => ?_)
          refine lv_iinc (v := y5_15 + 1) (lv' := [(5, .int (y5_15 + 1)), (4, .int (fX2_cooled y4_15 y3_15)), (2, .int x2), (3, .int y3_15)]) hC.1 hC.2.1 dX2_timeDownTo_36 hl (k := 3) rfl rfl (by decide) rfl (fun ls hl => ?_)
          refine lv_goto (tgt := 15) hC.1 hC.2.1 dX2_timeDownTo_39 (by decide) ?_
          have e_4 : bX2_timeDownTo_15 v x1 x2 y3_15 (y4_15, y5_15) = (true, (fX2_cooled y4_15 y3_15, y5_15 + 1)) := by exact Eq.trans (if_neg k18) (Eq.trans (if_neg k25) rfl)
          have hg : fX2_timeDownTo v x1 x2 = (tX2_timeDownTo_15 v x1 x2 y3_15 (lpB n15 (bX2_timeDownTo_15 v x1 x2 y3_15) (fX2_cooled y4_15 y3_15, y5_15 + 1))) := hg.trans (congrArg (fun z => (tX2_timeDownTo_15 v x1 x2 y3_15 (lpBs n15 (bX2_timeDownTo_15 v x1 x2 y3_15) z))) e_4)
          have hT : lpTs n15 (bX2_timeDownTo_15 v x1 x2 y3_15) (true, (fX2_cooled y4_15 y3_15, y5_15 + 1)) := by rw [← e_4]; exact hT
          exact ih (fX2_cooled y4_15 y3_15) (y5_15 + 1) (lpT_go hT) hg _ (lv_sub hl [2, 3, 1, 0] rfl)
  have e_5 : fX2_timeDownTo v x1 x2 = tX2_timeDownTo_15 v x1 x2 (fX5_at 7 (v 2) 1) (lpB (mS + 1) (bX2_timeDownTo_15 v x1 x2 (fX5_at 7 (v 2) 1)) (x1, 0)) := by exact rfl
  have hg : fX2_timeDownTo v x1 x2 = (tX2_timeDownTo_15 v x1 x2 (fX5_at 7 (v 2) 1) (lpB (mS + 1) (bX2_timeDownTo_15 v x1 x2 (fX5_at 7 (v 2) 1)) (x1, 0))) := hg.trans (congrArg (fun z => z) e_5)
  exact L15 (fX5_at 7 (v 2) 1) (mS + 1) x1 0 (T_timeDownTo v x1 x2 _ _) hg _ (lv_sub hl [5, 2, 1, 0] rfl)

theorem dX2_waitFor_0 : decode cX2_waitFor 0 = .ok (.aload_n 0, 1) := by decide +kernel
theorem dX2_waitFor_1 : decode cX2_waitFor 1 = .ok (.iload_n 1, 1) := by decide +kernel
theorem dX2_waitFor_2 : decode cX2_waitFor 2 = .ok (.aload_n 0, 1) := by decide +kernel
theorem dX2_waitFor_3 : decode cX2_waitFor 3 = .ok (.getfield 21, 3) := by decide +kernel
theorem dX2_waitFor_6 : decode cX2_waitFor 6 = .ok (.iconst 2, 1) := by decide +kernel
theorem dX2_waitFor_7 : decode cX2_waitFor 7 = .ok (.invokestatic 59, 3) := by decide +kernel
theorem dX2_waitFor_10 : decode cX2_waitFor 10 = .ok (.iload_n 2, 1) := by decide +kernel
theorem dX2_waitFor_11 : decode cX2_waitFor 11 = .ok (.isub, 1) := by decide +kernel
theorem dX2_waitFor_12 : decode cX2_waitFor 12 = .ok (.invokevirtual 127, 3) := by decide +kernel
theorem dX2_waitFor_15 : decode cX2_waitFor 15 = .ok (.ireturn, 1) := by decide +kernel
set_option maxHeartbeats 1000000 in
set_option maxRecDepth 100000 in
theorem c_X2_waitFor (l : Launch) (G : GT) (q : Nat → Nat) (v : SV) (x1 : Int32) (x2 : Int32) : Met l yX2_waitFor (Cond.code yX2_waitFor cX2_waitFor 3 (some .int) :: bigW) ({ frames := 2, cells := 0, slots := 0, locals := 47 }) (BP G [.ref (q 0), .int x1, .int x2] (fun U H => PW G (stW G q v) H)) (QP (.int (fX2_waitFor v x1 x2))) 0 0 (fun _ => False) := by
  refine met_of (by decide) (Nat.le_of_ble_eq_true rfl) ?_
  intro p e s m below meth c ls hC hKN hB0 hl
  have hP := hB0
  have hl : lv_has ls 3 [(0, .ref (q 0)), (1, .int x1), (2, .int x2)] := hl
  have hg : fX2_waitFor v x1 x2 = fX2_waitFor v x1 x2 := rfl
  refine lv_aload_n hC.1 hC.2.1 dX2_waitFor_0 rfl (lv_at hl 0 rfl) ?_
  refine lv_iload_n hC.1 hC.2.1 dX2_waitFor_1 rfl (lv_at hl 1 rfl) ?_
  refine lv_aload_n hC.1 hC.2.1 dX2_waitFor_2 rfl (lv_at hl 0 rfl) ?_
  refine gf (v := .ref (q 3)) hC fwX2 hKN hP 0 rfl rfl 2 (by decide) rfl wd_110 rfl dX2_waitFor_3 ?_
  refine lv_iconst (v := 2) hC.1 hC.2.1 dX2_waitFor_6 (by decide) ?_
  refine runP (rSN (B := fun U H => RD (q 3) 7 (v 2) U H) (As := [.ref (q 3), .int 2]) (rest := [.int x1, .ref (q 0)]) hC mwX5_at (c_X5_at l G (q 3) 7 (v 2) 2) wd_328 (nm_1 hKN) ⟨rfl, rfl⟩ ⟨Nat.le_of_ble_eq_true rfl, Nat.le_of_ble_eq_true rfl⟩ (stb_RD _ _ _) hKN (RD.ofP hKN hP 3 rfl) rfl hl.1 rfl (Nat.le_of_ble_eq_true rfl) dX2_waitFor_7 ⟨Nat.zero_le _, Nat.zero_le _⟩) ?_
  refine lv_iload_n hC.1 hC.2.1 dX2_waitFor_10 rfl (lv_at hl 2 rfl) ?_
  refine lv_isub hC.1 hC.2.1 dX2_waitFor_11 ?_
  refine runP (rV (B := fun U H => PW G (stW G q v) H) (As := [.int x1, .int ((fX5_at 7 (v 2) 2) - x2)]) (rest := []) hC mwX2_timeDownTo (c_X2_timeDownTo l G q v x1 ((fX5_at 7 (v 2) 2) - x2)) iwX2_timeDownTo wd_350 ⟨rfl, rfl⟩ ⟨Nat.le_of_ble_eq_true rfl, Nat.le_of_ble_eq_true rfl⟩ (stb_h (fun H => PW G (stW G q v) H)) hKN hP (va_recv hKN.k hP (ci := 2) (q0 := 0) rfl rfl) rfl hl.1 rfl (Nat.le_of_ble_eq_true rfl) dX2_waitFor_12 ⟨Nat.zero_le _, Nat.zero_le _⟩) ?_
  have e_1 : fX2_waitFor v x1 x2 = fX2_timeDownTo v x1 ((fX5_at 7 (v 2) 2) - x2) := by exact rfl
  have hg : fX2_waitFor v x1 x2 = fX2_timeDownTo v x1 ((fX5_at 7 (v 2) 2) - x2) := hg.trans (congrArg (fun z => z) e_1)
  exact eP_i hC (congrArg Value.int hg) dX2_waitFor_15

theorem dX2_isDark_0 : decode cX2_isDark 0 = .ok (.iload_n 1, 1) := by decide +kernel
theorem dX2_isDark_1 : decode cX2_isDark 1 = .ok (.getstatic 140, 3) := by decide +kernel
theorem dX2_isDark_4 : decode cX2_isDark 4 = .ok (.aload_n 0, 1) := by decide +kernel
theorem dX2_isDark_5 : decode cX2_isDark 5 = .ok (.getfield 49, 3) := by decide +kernel
theorem dX2_isDark_8 : decode cX2_isDark 8 = .ok (.invokestatic 59, 3) := by decide +kernel
theorem dX2_isDark_11 : decode cX2_isDark 11 = .ok (.if_icmp .lt 7, 3) := by decide +kernel
theorem dX2_isDark_14 : decode cX2_isDark 14 = .ok (.iconst 1, 1) := by decide +kernel
theorem dX2_isDark_15 : decode cX2_isDark 15 = .ok (.goto 4, 3) := by decide +kernel
theorem dX2_isDark_18 : decode cX2_isDark 18 = .ok (.iconst 0, 1) := by decide +kernel
theorem dX2_isDark_19 : decode cX2_isDark 19 = .ok (.ireturn, 1) := by decide +kernel
set_option maxHeartbeats 1000000 in
set_option maxRecDepth 100000 in
theorem c_X2_isDark (l : Launch) (G : GT) (q : Nat → Nat) (v : SV) (x1 : Int32) : Met l yX2_isDark (Cond.code yX2_isDark cX2_isDark 2 (some .boolean) :: bigW) ({ frames := 1, cells := 0, slots := 0, locals := 21 }) (BP G [.ref (q 0), .int x1] (fun U H => PW G (stW G q v) H)) (QP (.int (fX2_isDark v x1))) 0 0 (fun _ => False) := by
  refine met_of (by decide) (Nat.le_of_ble_eq_true rfl) ?_
  intro p e s m below meth c ls hC hKN hB0 hl
  have hP := hB0
  have hl : lv_has ls 2 [(0, .ref (q 0)), (1, .int x1)] := hl
  have hg : fX2_isDark v x1 = fX2_isDark v x1 := rfl
  refine lv_iload_n hC.1 hC.2.1 dX2_isDark_0 rfl (lv_at hl 1 rfl) ?_
  refine gsN hC (hKN.2.2.1 4 (by decide)).1 (nf_19 hKN) dX2_isDark_1 ?_
  refine lv_aload_n hC.1 hC.2.1 dX2_isDark_4 rfl (lv_at hl 0 rfl) ?_
  refine gf (v := .int (v 8 10)) hC fwX2 hKN hP 0 rfl rfl 7 (by decide) rfl wd_117 rfl dX2_isDark_5 ?_
  refine runP (rSN (B := fun U H => RD (gA G 4) 3 st4 U H) (As := [.ref (gA G 4), .int (v 8 10)]) (rest := [.int x1]) hC mwX5_at (c_X5_at l G (gA G 4) 3 st4 (v 8 10)) wd_328 (nm_1 hKN) ⟨rfl, rfl⟩ ⟨Nat.le_of_ble_eq_true rfl, Nat.le_of_ble_eq_true rfl⟩ (stb_RD _ _ _) hKN (hKN.rd 4 (by decide)) rfl hl.1 rfl (Nat.le_of_ble_eq_true rfl) dX2_isDark_8 ⟨Nat.zero_le _, Nat.zero_le _⟩) ?_
  refine lv_icmp_lt (tgt := 18) hC.1 hC.2.1 dX2_isDark_11 (by decide) (fun k11 => ?_) (fun k11 => ?_)
  · refine lv_iconst (v := 0) hC.1 hC.2.1 dX2_isDark_18 (by decide) ?_
    have e_1 : fX2_isDark v x1 = 0 := by exact Eq.trans (if_pos k11) rfl
    have hg : fX2_isDark v x1 = 0 := hg.trans (congrArg (fun z => z) e_1)
    exact eP_z hC (congrArg Value.int hg) rfl dX2_isDark_19
  · refine lv_iconst (v := 1) hC.1 hC.2.1 dX2_isDark_14 (by decide) ?_
    refine lv_goto (tgt := 19) hC.1 hC.2.1 dX2_isDark_15 (by decide) ?_
    have e_2 : fX2_isDark v x1 = 1 := by exact Eq.trans (if_neg k11) rfl
    have hg : fX2_isDark v x1 = 1 := hg.trans (congrArg (fun z => z) e_2)
    exact eP_z hC (congrArg Value.int hg) rfl dX2_isDark_19

theorem dX2_hottestDot_0 : decode cX2_hottestDot 0 = .ok (.iconst 0, 1) := by decide +kernel
theorem dX2_hottestDot_1 : decode cX2_hottestDot 1 = .ok (.istore_n 1, 1) := by decide +kernel
theorem dX2_hottestDot_2 : decode cX2_hottestDot 2 = .ok (.iconst 0, 1) := by decide +kernel
theorem dX2_hottestDot_3 : decode cX2_hottestDot 3 = .ok (.istore_n 2, 1) := by decide +kernel
theorem dX2_hottestDot_4 : decode cX2_hottestDot 4 = .ok (.iload_n 2, 1) := by decide +kernel
theorem dX2_hottestDot_5 : decode cX2_hottestDot 5 = .ok (.aload_n 0, 1) := by decide +kernel
theorem dX2_hottestDot_6 : decode cX2_hottestDot 6 = .ok (.getfield 9, 3) := by decide +kernel
theorem dX2_hottestDot_9 : decode cX2_hottestDot 9 = .ok (.arraylength, 1) := by decide +kernel
theorem dX2_hottestDot_10 : decode cX2_hottestDot 10 = .ok (.if_icmp .ge 20, 3) := by decide +kernel
theorem dX2_hottestDot_13 : decode cX2_hottestDot 13 = .ok (.iload_n 1, 1) := by decide +kernel
theorem dX2_hottestDot_14 : decode cX2_hottestDot 14 = .ok (.aload_n 0, 1) := by decide +kernel
theorem dX2_hottestDot_15 : decode cX2_hottestDot 15 = .ok (.getfield 9, 3) := by decide +kernel
theorem dX2_hottestDot_18 : decode cX2_hottestDot 18 = .ok (.iload_n 2, 1) := by decide +kernel
theorem dX2_hottestDot_19 : decode cX2_hottestDot 19 = .ok (.iaload, 1) := by decide +kernel
theorem dX2_hottestDot_20 : decode cX2_hottestDot 20 = .ok (.invokestatic 114, 3) := by decide +kernel
theorem dX2_hottestDot_23 : decode cX2_hottestDot 23 = .ok (.istore_n 1, 1) := by decide +kernel
theorem dX2_hottestDot_24 : decode cX2_hottestDot 24 = .ok (.iinc 2 1, 3) := by decide +kernel
theorem dX2_hottestDot_27 : decode cX2_hottestDot 27 = .ok (.goto (-23), 3) := by decide +kernel
theorem dX2_hottestDot_30 : decode cX2_hottestDot 30 = .ok (.iload_n 1, 1) := by decide +kernel
theorem dX2_hottestDot_31 : decode cX2_hottestDot 31 = .ok (.ireturn, 1) := by decide +kernel
set_option maxHeartbeats 1000000 in
set_option maxRecDepth 100000 in
theorem c_X2_hottestDot (l : Launch) (G : GT) (q : Nat → Nat) (v : SV) : Met l yX2_hottestDot (Cond.code yX2_hottestDot cX2_hottestDot 3 (some .int) :: bigW) ({ frames := 1, cells := 0, slots := 0, locals := 24 }) (BP G [.ref (q 0)] (fun U H => PW G (stW G q v) H)) (QP (.int (fX2_hottestDot v))) 0 0 (fun _ => False) := by
  refine met_of (by decide) (Nat.le_of_ble_eq_true rfl) ?_
  intro p e s m below meth c ls hC hKN hB0 hl
  have hP := hB0
  have hl : lv_has ls 3 [(0, .ref (q 0))] := hl
  have hg : fX2_hottestDot v = fX2_hottestDot v := rfl
  refine lv_iconst (v := 0) hC.1 hC.2.1 dX2_hottestDot_0 (by decide) ?_
  refine lv_istore_n (lv' := [(1, .int 0), (0, .ref (q 0))]) hC.1 hC.2.1 dX2_hottestDot_1 rfl hl (by decide) rfl (fun ls hl => ?_)
  refine lv_iconst (v := 0) hC.1 hC.2.1 dX2_hottestDot_2 (by decide) ?_
  refine lv_istore_n (lv' := [(2, .int 0), (1, .int 0), (0, .ref (q 0))]) hC.1 hC.2.1 dX2_hottestDot_3 rfl hl (by decide) rfl (fun ls hl => ?_)
  have A4 : ∀ (y1_4 : Int32), fX2_hottestDot v = (tX2_hottestDot_4 v y1_4) → ∀ (ls : Array Slot), lv_has ls 3 [(1, .int y1_4)] → W p l e ({ frames := 1, cells := 0, slots := 0, locals := 24 }) s m ([.ref (q 0)] : List Value).toArray below meth c s.heap [] 0 0 (MQ below (QP (.int (fX2_hottestDot v))) ([.ref (q 0)] : List Value).toArray s 0 0 (fun _ => False)) (F0 m 30 ls []) := by
    intro  y1_4 hg ls hl
    refine lv_iload_n hC.1 hC.2.1 dX2_hottestDot_30 rfl (lv_at hl 0 rfl) ?_
    have e_1 : tX2_hottestDot_4 v y1_4 = y1_4 := by exact rfl
    have hg : fX2_hottestDot v = y1_4 := hg.trans (congrArg (fun z => z) e_1)
    exact eP_i hC (congrArg Value.int hg) dX2_hottestDot_31
  have L4 : ∀ (n4 d4 : Nat), ∀ (y1_4 : Int32), d4 + n4 = 24 → fX2_hottestDot v = (tX2_hottestDot_4 v (lpF n4 d4 (bX2_hottestDot_4 v) y1_4)) → ∀ (ls : Array Slot), lv_has ls 3 [(0, .ref (q 0)), (1, .int y1_4), (2, .int (nI d4))] → W p l e ({ frames := 1, cells := 0, slots := 0, locals := 24 }) s m ([.ref (q 0)] : List Value).toArray below meth c s.heap [] 0 0 (MQ below (QP (.int (fX2_hottestDot v))) ([.ref (q 0)] : List Value).toArray s 0 0 (fun _ => False)) (F0 m 4 ls []) := by
    intro n4
    induction n4 with
    | zero =>
      intro d4 y1_4 hd hg ls hl
      refine lv_iload_n hC.1 hC.2.1 dX2_hottestDot_4 rfl (lv_at hl 2 rfl) ?_
      refine lv_aload_n hC.1 hC.2.1 dX2_hottestDot_5 rfl (lv_at hl 0 rfl) ?_
      refine gf (v := .ref (q 1)) hC fwX2 hKN hP 0 rfl rfl 0 (by decide) rfl wd_108 rfl dX2_hottestDot_6 ?_
      refine alen_n hC hKN hP 1 rfl dX2_hottestDot_9 ?_
      refine lv_icmp_ge (tgt := 30) hC.1 hC.2.1 dX2_hottestDot_10 (by decide) (fun k10 => ?_) (fun k10 => ?_)
      · exact A4  y1_4 hg _ (lv_sub hl [1] rfl)
      · exact absurd (nI_le (a := 24) (b := d4) (by omega) (by omega)) k10
    | succ n4 ih =>
      intro d4 y1_4 hd hg ls hl
      have hg : fX2_hottestDot v = (tX2_hottestDot_4 v (lpF n4 (d4 + 1) (bX2_hottestDot_4 v) (bX2_hottestDot_4 v d4 y1_4))) := hg
      refine lv_iload_n hC.1 hC.2.1 dX2_hottestDot_4 rfl (lv_at hl 2 rfl) ?_
      refine lv_aload_n hC.1 hC.2.1 dX2_hottestDot_5 rfl (lv_at hl 0 rfl) ?_
      refine gf (v := .ref (q 1)) hC fwX2 hKN hP 0 rfl rfl 0 (by decide) rfl wd_108 rfl dX2_hottestDot_6 ?_
      refine alen_n hC hKN hP 1 rfl dX2_hottestDot_9 ?_
      refine lv_icmp_ge (tgt := 30) hC.1 hC.2.1 dX2_hottestDot_10 (by decide) (fun k10 => ?_) (fun k10 => ?_)
      · exact absurd k10 (nI_ge (a := d4) (b := 24) (by omega) (by omega))
      · refine lv_iload_n hC.1 hC.2.1 dX2_hottestDot_13 rfl (lv_at hl 1 rfl) ?_
        refine lv_aload_n hC.1 hC.2.1 dX2_hottestDot_14 rfl (lv_at hl 0 rfl) ?_
        refine gf (v := .ref (q 1)) hC fwX2 hKN hP 0 rfl rfl 0 (by decide) rfl wd_108 rfl dX2_hottestDot_15 ?_
        refine lv_iload_n hC.1 hC.2.1 dX2_hottestDot_18 rfl (lv_at hl 2 rfl) ?_
        refine iald_k hC hKN hP 1 rfl (n := 24) (f := (v 0)) d4 (rfl) (by omega) (by first | decide | omega) dX2_hottestDot_19 ?_
        refine va_mmax hC.1 hC.2.1 (hC.2.2.2.1.trans hl.1.symm) hC.2.2.2.2.1 (hC.2.2.2.2.2.2.1 _ wd_343) (hC.2.2.2.2.2.2.1 _ wd_344) (hC.2.2.2.2.2.2.1 _ wd_3) (hC.2.2.2.2.2.2.1 _ wd_345) (Nat.le_of_ble_eq_true rfl) (Nat.le_of_ble_eq_true rfl) (Nat.zero_le _) (Nat.zero_le _) dX2_hottestDot_20 ?_
        refine lv_istore_n (lv' := [(1, .int (if y1_4 < ((v 0) d4) then ((v 0) d4) else y1_4)), (0, .ref (q 0)), (2, .int (nI d4))]) hC.1 hC.2.1 dX2_hottestDot_23 rfl hl (by decide) rfl (fun ls hl => ?_)
        refine lv_iinc (v := nI (d4 + 1)) (lv' := [(2, .int (nI (d4 + 1))), (1, .int (if y1_4 < ((v 0) d4) then ((v 0) d4) else y1_4)), (0, .ref (q 0))]) hC.1 hC.2.1 dX2_hottestDot_24 hl (k := 2) rfl (nI_1 _) (by decide) rfl (fun ls hl => ?_)
        refine lv_goto (tgt := 4) hC.1 hC.2.1 dX2_hottestDot_27 (by decide) ?_
        have e_2 : bX2_hottestDot_4 v d4 y1_4 = (if y1_4 < ((v 0) d4) then ((v 0) d4) else y1_4) := by exact rfl
        have hg : fX2_hottestDot v = (tX2_hottestDot_4 v (lpF n4 (d4 + 1) (bX2_hottestDot_4 v) (if y1_4 < ((v 0) d4) then ((v 0) d4) else y1_4))) := hg.trans (congrArg (fun z => (tX2_hottestDot_4 v (lpF n4 (d4 + 1) (bX2_hottestDot_4 v) z))) e_2)
        exact ih (d4 + 1) (if y1_4 < ((v 0) d4) then ((v 0) d4) else y1_4) (by omega) hg _ (lv_sub hl [2, 1, 0] rfl)
  have e_3 : fX2_hottestDot v = tX2_hottestDot_4 v (lpF 24 0 (bX2_hottestDot_4 v) 0) := by exact rfl
  have hg : fX2_hottestDot v = (tX2_hottestDot_4 v (lpF 24 0 (bX2_hottestDot_4 v) 0)) := hg.trans (congrArg (fun z => z) e_3)
  exact L4  24 0 0 (by omega) hg _ (lv_sub hl [2, 1, 0] rfl)

theorem dX2_timeUntilCool_0 : decode cX2_timeUntilCool 0 = .ok (.aload_n 0, 1) := by decide +kernel
theorem dX2_timeUntilCool_1 : decode cX2_timeUntilCool 1 = .ok (.aload_n 0, 1) := by decide +kernel
theorem dX2_timeUntilCool_2 : decode cX2_timeUntilCool 2 = .ok (.invokevirtual 150, 3) := by decide +kernel
theorem dX2_timeUntilCool_5 : decode cX2_timeUntilCool 5 = .ok (.iload_n 1, 1) := by decide +kernel
theorem dX2_timeUntilCool_6 : decode cX2_timeUntilCool 6 = .ok (.invokevirtual 127, 3) := by decide +kernel
theorem dX2_timeUntilCool_9 : decode cX2_timeUntilCool 9 = .ok (.ireturn, 1) := by decide +kernel
set_option maxHeartbeats 1000000 in
set_option maxRecDepth 100000 in
theorem c_X2_timeUntilCool (l : Launch) (G : GT) (q : Nat → Nat) (v : SV) (x1 : Int32) : Met l yX2_timeUntilCool (Cond.code yX2_timeUntilCool cX2_timeUntilCool 2 (some .int) :: bigW) ({ frames := 2, cells := 0, slots := 0, locals := 47 }) (BP G [.ref (q 0), .int x1] (fun U H => PW G (stW G q v) H)) (QP (.int (fX2_timeUntilCool v x1))) 0 0 (fun _ => False) := by
  refine met_of (by decide) (Nat.le_of_ble_eq_true rfl) ?_
  intro p e s m below meth c ls hC hKN hB0 hl
  have hP := hB0
  have hl : lv_has ls 2 [(0, .ref (q 0)), (1, .int x1)] := hl
  have hg : fX2_timeUntilCool v x1 = fX2_timeUntilCool v x1 := rfl
  refine lv_aload_n hC.1 hC.2.1 dX2_timeUntilCool_0 rfl (lv_at hl 0 rfl) ?_
  refine lv_aload_n hC.1 hC.2.1 dX2_timeUntilCool_1 rfl (lv_at hl 0 rfl) ?_
  refine runP (rV (B := fun U H => PW G (stW G q v) H) (As := []) (rest := [.ref (q 0)]) hC mwX2_hottestDot (c_X2_hottestDot l G q v) iwX2_hottestDot wd_570 ⟨rfl, rfl⟩ ⟨Nat.le_of_ble_eq_true rfl, Nat.le_of_ble_eq_true rfl⟩ (stb_h (fun H => PW G (stW G q v) H)) hKN hP (va_recv hKN.k hP (ci := 2) (q0 := 0) rfl rfl) rfl hl.1 rfl (Nat.le_of_ble_eq_true rfl) dX2_timeUntilCool_2 ⟨Nat.zero_le _, Nat.zero_le _⟩) ?_
  refine lv_iload_n hC.1 hC.2.1 dX2_timeUntilCool_5 rfl (lv_at hl 1 rfl) ?_
  refine runP (rV (B := fun U H => PW G (stW G q v) H) (As := [.int (fX2_hottestDot v), .int x1]) (rest := []) hC mwX2_timeDownTo (c_X2_timeDownTo l G q v (fX2_hottestDot v) x1) iwX2_timeDownTo wd_350 ⟨rfl, rfl⟩ ⟨Nat.le_of_ble_eq_true rfl, Nat.le_of_ble_eq_true rfl⟩ (stb_h (fun H => PW G (stW G q v) H)) hKN hP (va_recv hKN.k hP (ci := 2) (q0 := 0) rfl rfl) rfl hl.1 rfl (Nat.le_of_ble_eq_true rfl) dX2_timeUntilCool_6 ⟨Nat.zero_le _, Nat.zero_le _⟩) ?_
  have e_1 : fX2_timeUntilCool v x1 = fX2_timeDownTo v (fX2_hottestDot v) x1 := by exact rfl
  have hg : fX2_timeUntilCool v x1 = fX2_timeDownTo v (fX2_hottestDot v) x1 := hg.trans (congrArg (fun z => z) e_1)
  exact eP_i hC (congrArg Value.int hg) dX2_timeUntilCool_9

theorem dX2_leastDarkSetting_0 : decode cX2_leastDarkSetting 0 = .ok (.getstatic 153, 3) := by decide +kernel
theorem dX2_leastDarkSetting_3 : decode cX2_leastDarkSetting 3 = .ok (.iconst 0, 1) := by decide +kernel
theorem dX2_leastDarkSetting_4 : decode cX2_leastDarkSetting 4 = .ok (.invokestatic 59, 3) := by decide +kernel
theorem dX2_leastDarkSetting_7 : decode cX2_leastDarkSetting 7 = .ok (.istore_n 2, 1) := by decide +kernel
theorem dX2_leastDarkSetting_8 : decode cX2_leastDarkSetting 8 = .ok (.getstatic 156, 3) := by decide +kernel
theorem dX2_leastDarkSetting_11 : decode cX2_leastDarkSetting 11 = .ok (.iconst 0, 1) := by decide +kernel
theorem dX2_leastDarkSetting_12 : decode cX2_leastDarkSetting 12 = .ok (.invokestatic 59, 3) := by decide +kernel
theorem dX2_leastDarkSetting_15 : decode cX2_leastDarkSetting 15 = .ok (.istore_n 3, 1) := by decide +kernel
theorem dX2_leastDarkSetting_16 : decode cX2_leastDarkSetting 16 = .ok (.iload_n 3, 1) := by decide +kernel
theorem dX2_leastDarkSetting_17 : decode cX2_leastDarkSetting 17 = .ok (.iload_n 2, 1) := by decide +kernel
theorem dX2_leastDarkSetting_18 : decode cX2_leastDarkSetting 18 = .ok (.if_icmp .gt 53, 3) := by decide +kernel
theorem dX2_leastDarkSetting_21 : decode cX2_leastDarkSetting 21 = .ok (.aload_n 0, 1) := by decide +kernel
theorem dX2_leastDarkSetting_22 : decode cX2_leastDarkSetting 22 = .ok (.iload_n 1, 1) := by decide +kernel
theorem dX2_leastDarkSetting_23 : decode cX2_leastDarkSetting 23 = .ok (.iload_n 3, 1) := by decide +kernel
theorem dX2_leastDarkSetting_24 : decode cX2_leastDarkSetting 24 = .ok (.invokevirtual 159, 3) := by decide +kernel
theorem dX2_leastDarkSetting_27 : decode cX2_leastDarkSetting 27 = .ok (.istore 4, 2) := by decide +kernel
theorem dX2_leastDarkSetting_29 : decode cX2_leastDarkSetting 29 = .ok (.aload_n 0, 1) := by decide +kernel
theorem dX2_leastDarkSetting_30 : decode cX2_leastDarkSetting 30 = .ok (.getfield 9, 3) := by decide +kernel
theorem dX2_leastDarkSetting_33 : decode cX2_leastDarkSetting 33 = .ok (.iload_n 1, 1) := by decide +kernel
theorem dX2_leastDarkSetting_34 : decode cX2_leastDarkSetting 34 = .ok (.invokestatic 59, 3) := by decide +kernel
theorem dX2_leastDarkSetting_37 : decode cX2_leastDarkSetting 37 = .ok (.istore 5, 2) := by decide +kernel
theorem dX2_leastDarkSetting_39 : decode cX2_leastDarkSetting 39 = .ok (.aload_n 0, 1) := by decide +kernel
theorem dX2_leastDarkSetting_40 : decode cX2_leastDarkSetting 40 = .ok (.aload_n 0, 1) := by decide +kernel
theorem dX2_leastDarkSetting_41 : decode cX2_leastDarkSetting 41 = .ok (.iload 5, 2) := by decide +kernel
theorem dX2_leastDarkSetting_43 : decode cX2_leastDarkSetting 43 = .ok (.aload_n 0, 1) := by decide +kernel
theorem dX2_leastDarkSetting_44 : decode cX2_leastDarkSetting 44 = .ok (.iload 5, 2) := by decide +kernel
theorem dX2_leastDarkSetting_46 : decode cX2_leastDarkSetting 46 = .ok (.iload 4, 2) := by decide +kernel
theorem dX2_leastDarkSetting_48 : decode cX2_leastDarkSetting 48 = .ok (.invokevirtual 162, 3) := by decide +kernel
theorem dX2_leastDarkSetting_51 : decode cX2_leastDarkSetting 51 = .ok (.invokevirtual 143, 3) := by decide +kernel
theorem dX2_leastDarkSetting_54 : decode cX2_leastDarkSetting 54 = .ok (.iload 4, 2) := by decide +kernel
theorem dX2_leastDarkSetting_56 : decode cX2_leastDarkSetting 56 = .ok (.iadd, 1) := by decide +kernel
theorem dX2_leastDarkSetting_57 : decode cX2_leastDarkSetting 57 = .ok (.invokevirtual 133, 3) := by decide +kernel
theorem dX2_leastDarkSetting_60 : decode cX2_leastDarkSetting 60 = .ok (.ifCond .eq 5, 3) := by decide +kernel
theorem dX2_leastDarkSetting_63 : decode cX2_leastDarkSetting 63 = .ok (.iload_n 3, 1) := by decide +kernel
theorem dX2_leastDarkSetting_64 : decode cX2_leastDarkSetting 64 = .ok (.ireturn, 1) := by decide +kernel
theorem dX2_leastDarkSetting_65 : decode cX2_leastDarkSetting 65 = .ok (.iinc 3 1, 3) := by decide +kernel
theorem dX2_leastDarkSetting_68 : decode cX2_leastDarkSetting 68 = .ok (.goto (-52), 3) := by decide +kernel
theorem dX2_leastDarkSetting_71 : decode cX2_leastDarkSetting 71 = .ok (.iconst (-1), 1) := by decide +kernel
theorem dX2_leastDarkSetting_72 : decode cX2_leastDarkSetting 72 = .ok (.ireturn, 1) := by decide +kernel
set_option maxHeartbeats 1000000 in
set_option maxRecDepth 100000 in
theorem c_X2_leastDarkSetting (l : Launch) (G : GT) (q : Nat → Nat) (v : SV) (x1 : Int32) : Met l yX2_leastDarkSetting (Cond.code yX2_leastDarkSetting cX2_leastDarkSetting 6 (some .int) :: bigW) ({ frames := 3, cells := 0, slots := 0, locals := 70 }) (BP G [.ref (q 0), .int x1] (fun U H => PW G (stW G q v) H)) (QP (.int (fX2_leastDarkSetting v x1))) 0 0 (fun _ => False) := by
  refine met_of (by decide) (Nat.le_of_ble_eq_true rfl) ?_
  intro p e s m below meth c ls hC hKN hB0 hl
  have hP := hB0
  have hl : lv_has ls 6 [(0, .ref (q 0)), (1, .int x1)] := hl
  have hg : fX2_leastDarkSetting v x1 = fX2_leastDarkSetting v x1 := rfl
  refine gsN hC (hKN.2.2.1 2 (by decide)).1 (nf_20 hKN) dX2_leastDarkSetting_0 ?_
  refine lv_iconst (v := 0) hC.1 hC.2.1 dX2_leastDarkSetting_3 (by decide) ?_
  refine runP (rSN (B := fun U H => RD (gA G 2) 7 st2 U H) (As := [.ref (gA G 2), .int 0]) (rest := []) hC mwX5_at (c_X5_at l G (gA G 2) 7 st2 0) wd_328 (nm_1 hKN) ⟨rfl, rfl⟩ ⟨Nat.le_of_ble_eq_true rfl, Nat.le_of_ble_eq_true rfl⟩ (stb_RD _ _ _) hKN (hKN.rd 2 (by decide)) rfl hl.1 rfl (Nat.le_of_ble_eq_true rfl) dX2_leastDarkSetting_4 ⟨Nat.zero_le _, Nat.zero_le _⟩) ?_
  rw [show fX5_at 7 st2 0 = nI 300 from (by decide)]
  refine lv_istore_n (lv' := [(2, .int (nI 300)), (0, .ref (q 0)), (1, .int x1)]) hC.1 hC.2.1 dX2_leastDarkSetting_7 rfl hl (by decide) rfl (fun ls hl => ?_)
  refine gsN hC (hKN.2.2.1 1 (by decide)).1 (nf_21 hKN) dX2_leastDarkSetting_8 ?_
  refine lv_iconst (v := 0) hC.1 hC.2.1 dX2_leastDarkSetting_11 (by decide) ?_
  refine runP (rSN (B := fun U H => RD (gA G 1) 7 st1 U H) (As := [.ref (gA G 1), .int 0]) (rest := []) hC mwX5_at (c_X5_at l G (gA G 1) 7 st1 0) wd_328 (nm_1 hKN) ⟨rfl, rfl⟩ ⟨Nat.le_of_ble_eq_true rfl, Nat.le_of_ble_eq_true rfl⟩ (stb_RD _ _ _) hKN (hKN.rd 1 (by decide)) rfl hl.1 rfl (Nat.le_of_ble_eq_true rfl) dX2_leastDarkSetting_12 ⟨Nat.zero_le _, Nat.zero_le _⟩) ?_
  rw [show fX5_at 7 st1 0 = nI 50 from (by decide)]
  refine lv_istore_n (lv' := [(3, .int (nI 50)), (2, .int (nI 300)), (0, .ref (q 0)), (1, .int x1)]) hC.1 hC.2.1 dX2_leastDarkSetting_15 rfl hl (by decide) rfl (fun ls hl => ?_)
  have A16 : fX2_leastDarkSetting v x1 = (tX2_leastDarkSetting_16 v x1 ()) → ∀ (ls : Array Slot), lv_has ls 6 [] → W p l e ({ frames := 3, cells := 0, slots := 0, locals := 70 }) s m ([.ref (q 0), .int x1] : List Value).toArray below meth c s.heap [] 0 0 (MQ below (QP (.int (fX2_leastDarkSetting v x1))) ([.ref (q 0), .int x1] : List Value).toArray s 0 0 (fun _ => False)) (F0 m 71 ls []) := by
    intro   hg ls hl
    refine lv_iconst (v := (-1)) hC.1 hC.2.1 dX2_leastDarkSetting_71 (by decide) ?_
    have e_1 : tX2_leastDarkSetting_16 v x1 () = (-1) := by exact rfl
    have hg : fX2_leastDarkSetting v x1 = (-1) := hg.trans (congrArg (fun z => z) e_1)
    exact eP_i hC (congrArg Value.int hg) dX2_leastDarkSetting_72
  have L16 : ∀ (n16 d16 : Nat), d16 + n16 = 301 → fX2_leastDarkSetting v x1 = (Sum.elim (tX2_leastDarkSetting_16 v x1) id (lpR n16 d16 (bX2_leastDarkSetting_16 v x1) ())) → ∀ (ls : Array Slot), lv_has ls 6 [(0, .ref (q 0)), (1, .int x1), (2, .int (nI 300)), (3, .int (nI d16))] → W p l e ({ frames := 3, cells := 0, slots := 0, locals := 70 }) s m ([.ref (q 0), .int x1] : List Value).toArray below meth c s.heap [] 0 0 (MQ below (QP (.int (fX2_leastDarkSetting v x1))) ([.ref (q 0), .int x1] : List Value).toArray s 0 0 (fun _ => False)) (F0 m 16 ls []) := by
    intro n16
    induction n16 with
    | zero =>
      intro d16  hd hg ls hl
      refine lv_iload_n hC.1 hC.2.1 dX2_leastDarkSetting_16 rfl (lv_at hl 3 rfl) ?_
      refine lv_iload_n hC.1 hC.2.1 dX2_leastDarkSetting_17 rfl (lv_at hl 2 rfl) ?_
      refine lv_icmp_gt (tgt := 71) hC.1 hC.2.1 dX2_leastDarkSetting_18 (by decide) (fun k18 => ?_) (fun k18 => ?_)
      · exact A16   hg _ (lv_sub hl [] rfl)
      · exact absurd (nI_lt (by omega) (by omega)) k18
    | succ n16 ih =>
      intro d16  hd hg ls hl
      have hg : fX2_leastDarkSetting v x1 = (Sum.elim (tX2_leastDarkSetting_16 v x1) id (lpRs n16 d16 (bX2_leastDarkSetting_16 v x1) (bX2_leastDarkSetting_16 v x1 d16 ()))) := hg
      refine lv_iload_n hC.1 hC.2.1 dX2_leastDarkSetting_16 rfl (lv_at hl 3 rfl) ?_
      refine lv_iload_n hC.1 hC.2.1 dX2_leastDarkSetting_17 rfl (lv_at hl 2 rfl) ?_
      refine lv_icmp_gt (tgt := 71) hC.1 hC.2.1 dX2_leastDarkSetting_18 (by decide) (fun k18 => ?_) (fun k18 => ?_)
      · exact absurd k18 (nI_nlt (by omega) (by omega))
      · refine lv_aload_n hC.1 hC.2.1 dX2_leastDarkSetting_21 rfl (lv_at hl 0 rfl) ?_
        refine lv_iload_n hC.1 hC.2.1 dX2_leastDarkSetting_22 rfl (lv_at hl 1 rfl) ?_
        refine lv_iload_n hC.1 hC.2.1 dX2_leastDarkSetting_23 rfl (lv_at hl 3 rfl) ?_
        refine runP (rV (B := fun U H => PW G (stW G q v) H) (As := [.int x1, .int (nI d16)]) (rest := []) hC mwX2_pulseAlone (c_X2_pulseAlone l G q v x1 (nI d16)) iwX2_pulseAlone wd_333 ⟨rfl, rfl⟩ ⟨Nat.le_of_ble_eq_true rfl, Nat.le_of_ble_eq_true rfl⟩ (stb_h (fun H => PW G (stW G q v) H)) hKN hP (va_recv hKN.k hP (ci := 2) (q0 := 0) rfl rfl) rfl hl.1 rfl (Nat.le_of_ble_eq_true rfl) dX2_leastDarkSetting_24 ⟨Nat.zero_le _, Nat.zero_le _⟩) ?_
        refine lv_istore (lv' := [(4, .int (fX2_pulseAlone v x1 (nI d16))), (0, .ref (q 0)), (1, .int x1), (2, .int (nI 300)), (3, .int (nI d16))]) hC.1 hC.2.1 dX2_leastDarkSetting_27 hl (by decide) rfl (fun ls hl => ?_)
        refine lv_aload_n hC.1 hC.2.1 dX2_leastDarkSetting_29 rfl (lv_at hl 1 rfl) ?_
        refine gf (v := .ref (q 1)) hC fwX2 hKN hP 0 rfl rfl 0 (by decide) rfl wd_108 rfl dX2_leastDarkSetting_30 ?_
        refine lv_iload_n hC.1 hC.2.1 dX2_leastDarkSetting_33 rfl (lv_at hl 2 rfl) ?_
        refine runP (rSN (B := fun U H => RD (q 1) 24 (v 0) U H) (As := [.ref (q 1), .int x1]) (rest := []) hC mwX5_at (c_X5_at l G (q 1) 24 (v 0) x1) wd_328 (nm_1 hKN) ⟨rfl, rfl⟩ ⟨Nat.le_of_ble_eq_true rfl, Nat.le_of_ble_eq_true rfl⟩ (stb_RD _ _ _) hKN (RD.ofP hKN hP 1 rfl) rfl hl.1 rfl (Nat.le_of_ble_eq_true rfl) dX2_leastDarkSetting_34 ⟨Nat.zero_le _, Nat.zero_le _⟩) ?_
        refine lv_istore (lv' := [(5, .int (fX5_at 24 (v 0) x1)), (4, .int (fX2_pulseAlone v x1 (nI d16))), (0, .ref (q 0)), (1, .int x1), (2, .int (nI 300)), (3, .int (nI d16))]) hC.1 hC.2.1 dX2_leastDarkSetting_37 hl (by decide) rfl (fun ls hl => ?_)
        refine lv_aload_n hC.1 hC.2.1 dX2_leastDarkSetting_39 rfl (lv_at hl 2 rfl) ?_
        refine lv_aload_n hC.1 hC.2.1 dX2_leastDarkSetting_40 rfl (lv_at hl 2 rfl) ?_
        refine lv_iload hC.1 hC.2.1 dX2_leastDarkSetting_41 (lv_at hl 0 rfl) ?_
        refine lv_aload_n hC.1 hC.2.1 dX2_leastDarkSetting_43 rfl (lv_at hl 2 rfl) ?_
        refine lv_iload hC.1 hC.2.1 dX2_leastDarkSetting_44 (lv_at hl 0 rfl) ?_
        refine lv_iload hC.1 hC.2.1 dX2_leastDarkSetting_46 (lv_at hl 1 rfl) ?_
        refine runP (rV (B := fun U H => PW G (stW G q v) H) (As := [.int (fX5_at 24 (v 0) x1), .int (fX2_pulseAlone v x1 (nI d16))]) (rest := [.int (fX5_at 24 (v 0) x1), .ref (q 0), .ref (q 0)]) hC mwX2_waitFor (c_X2_waitFor l G q v (fX5_at 24 (v 0) x1) (fX2_pulseAlone v x1 (nI d16))) iwX2_waitFor wd_346 ⟨rfl, rfl⟩ ⟨Nat.le_of_ble_eq_true rfl, Nat.le_of_ble_eq_true rfl⟩ (stb_h (fun H => PW G (stW G q v) H)) hKN hP (va_recv hKN.k hP (ci := 2) (q0 := 0) rfl rfl) rfl hl.1 rfl (Nat.le_of_ble_eq_true rfl) dX2_leastDarkSetting_48 ⟨Nat.zero_le _, Nat.zero_le _⟩) ?_
        refine runP (rV (B := fun U H => PW G (stW G q v) H) (As := [.int (fX5_at 24 (v 0) x1), .int (fX2_waitFor v (fX5_at 24 (v 0) x1) (fX2_pulseAlone v x1 (nI d16)))]) (rest := [.ref (q 0)]) hC mwX2_cooledFor (c_X2_cooledFor l G q v (fX5_at 24 (v 0) x1) (fX2_waitFor v (fX5_at 24 (v 0) x1) (fX2_pulseAlone v x1 (nI d16)))) iwX2_cooledFor wd_509 ⟨rfl, rfl⟩ ⟨Nat.le_of_ble_eq_true rfl, Nat.le_of_ble_eq_true rfl⟩ (stb_h (fun H => PW G (stW G q v) H)) hKN hP (va_recv hKN.k hP (ci := 2) (q0 := 0) rfl rfl) rfl hl.1 rfl (Nat.le_of_ble_eq_true rfl) dX2_leastDarkSetting_51 ⟨Nat.zero_le _, Nat.zero_le _⟩) ?_
        refine lv_iload hC.1 hC.2.1 dX2_leastDarkSetting_54 (lv_at hl 1 rfl) ?_
        refine lv_iadd hC.1 hC.2.1 dX2_leastDarkSetting_56 ?_
        refine runP (rV (B := fun U H => PW G (stW G q v) H) (As := [.int ((fX2_cooledFor v (fX5_at 24 (v 0) x1) (fX2_waitFor v (fX5_at 24 (v 0) x1) (fX2_pulseAlone v x1 (nI d16)))) + (fX2_pulseAlone v x1 (nI d16)))]) (rest := []) hC mwX2_isDark (c_X2_isDark l G q v ((fX2_cooledFor v (fX5_at 24 (v 0) x1) (fX2_waitFor v (fX5_at 24 (v 0) x1) (fX2_pulseAlone v x1 (nI d16)))) + (fX2_pulseAlone v x1 (nI d16)))) iwX2_isDark wd_517 ⟨rfl, rfl⟩ ⟨Nat.le_of_ble_eq_true rfl, Nat.le_of_ble_eq_true rfl⟩ (stb_h (fun H => PW G (stW G q v) H)) hKN hP (va_recv hKN.k hP (ci := 2) (q0 := 0) rfl rfl) rfl hl.1 rfl (Nat.le_of_ble_eq_true rfl) dX2_leastDarkSetting_57 ⟨Nat.zero_le _, Nat.zero_le _⟩) ?_
        refine lv_if_eq (tgt := 65) hC.1 hC.2.1 dX2_leastDarkSetting_60 (by decide) (fun k60 => ?_) (fun k60 => ?_)
        · refine lv_iinc (v := nI (d16 + 1)) (lv' := [(3, .int (nI (d16 + 1))), (5, .int (fX5_at 24 (v 0) x1)), (4, .int (fX2_pulseAlone v x1 (nI d16))), (0, .ref (q 0)), (1, .int x1), (2, .int (nI 300))]) hC.1 hC.2.1 dX2_leastDarkSetting_65 hl (k := 5) rfl (nI_1 _) (by decide) rfl (fun ls hl => ?_)
          refine lv_goto (tgt := 16) hC.1 hC.2.1 dX2_leastDarkSetting_68 (by decide) ?_
          have e_2 : bX2_leastDarkSetting_16 v x1 d16 () = Sum.inl () := by exact Eq.trans (if_pos k60) rfl
          have hg : fX2_leastDarkSetting v x1 = (Sum.elim (tX2_leastDarkSetting_16 v x1) id (lpR n16 (d16 + 1) (bX2_leastDarkSetting_16 v x1) ())) := hg.trans (congrArg (fun z => (Sum.elim (tX2_leastDarkSetting_16 v x1) id (lpRs n16 d16 (bX2_leastDarkSetting_16 v x1) z))) e_2)
          exact ih (d16 + 1)  (by omega) hg _ (lv_sub hl [3, 4, 5, 0] rfl)
        · refine lv_iload_n hC.1 hC.2.1 dX2_leastDarkSetting_63 rfl (lv_at hl 5 rfl) ?_
          have e_3 : bX2_leastDarkSetting_16 v x1 d16 () = Sum.inr (nI d16) := by exact Eq.trans (if_neg k60) rfl
          have hg : fX2_leastDarkSetting v x1 = nI d16 := hg.trans (congrArg (fun z => (Sum.elim (tX2_leastDarkSetting_16 v x1) id (lpRs n16 d16 (bX2_leastDarkSetting_16 v x1) z))) e_3)
          exact eP_i hC (congrArg Value.int hg) dX2_leastDarkSetting_64
  have e_4 : fX2_leastDarkSetting v x1 = Sum.elim (tX2_leastDarkSetting_16 v x1) id (lpR (301 - 50) 50 (bX2_leastDarkSetting_16 v x1) ()) := by exact rfl
  have hg : fX2_leastDarkSetting v x1 = (Sum.elim (tX2_leastDarkSetting_16 v x1) id (lpR (301 - 50) 50 (bX2_leastDarkSetting_16 v x1) ())) := hg.trans (congrArg (fun z => z) e_4)
  exact L16  (301 - 50) 50  (by omega) hg _ (lv_sub hl [2, 3, 1, 0] rfl)
