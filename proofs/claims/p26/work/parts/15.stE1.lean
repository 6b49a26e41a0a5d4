def fX5_put (n1 : Nat) (f1 : Nat → Int32) (x2 : Int32) (x3 : Int32) : (Nat → Int32) := if x2 < 0 then (f1) else (if (nI n1) ≤ x2 then (f1) else (upd f1 x2.toNatClampNeg x3))
def tX3_pushFront_5 (f1 : Nat → Int32) (x2 : Int32) (s : (Nat → Int32)) : (Nat → Int32) := let f_5 := s; fX5_put 12 f_5 0 x2
def bX3_pushFront_5 (f1 : Nat → Int32) (x2 : Int32) (d : Nat) (s : (Nat → Int32)) : (Nat → Int32) := let f_5 := s; let w_5 : Int32 := f_5 (d - 1); upd f_5 d w_5
def fX3_pushFront (f1 : Nat → Int32) (x2 : Int32) : (Nat → Int32) := tX3_pushFront_5 f1 x2 (lpD 11 (bX3_pushFront_5 f1 x2) f1)
def tX4_addDots_2 (f1 : Nat → Int32) (x2 : Int32) (s : (Nat → Int32)) : (Nat → Int32) := let f_2 := s; f_2
def bX4_addDots_2 (f1 : Nat → Int32) (x2 : Int32) (d2 : Nat) (s : (Nat → Int32)) : (Nat → Int32) := let f_2 := s; let w_2 : Int32 := (f_2 d2) + (fX5_bitOf x2 (nI d2)); upd f_2 d2 w_2
def fX4_addDots (f1 : Nat → Int32) (x2 : Int32) : (Nat → Int32) := tX4_addDots_2 f1 x2 (lpF 24 0 (bX4_addDots_2 f1 x2) f1)
theorem dX5_put_0 : decode cX5_put 0 = .ok (.iload_n 1, 1) := by decide +kernel
theorem dX5_put_1 : decode cX5_put 1 = .ok (.ifCond .lt 13, 3) := by decide +kernel
theorem dX5_put_4 : decode cX5_put 4 = .ok (.iload_n 1, 1) := by decide +kernel
theorem dX5_put_5 : decode cX5_put 5 = .ok (.aload_n 0, 1) := by decide +kernel
theorem dX5_put_6 : decode cX5_put 6 = .ok (.arraylength, 1) := by decide +kernel
theorem dX5_put_7 : decode cX5_put 7 = .ok (.if_icmp .ge 7, 3) := by decide +kernel
theorem dX5_put_10 : decode cX5_put 10 = .ok (.aload_n 0, 1) := by decide +kernel
theorem dX5_put_11 : decode cX5_put 11 = .ok (.iload_n 1, 1) := by decide +kernel
theorem dX5_put_12 : decode cX5_put 12 = .ok (.iload_n 2, 1) := by decide +kernel
theorem dX5_put_13 : decode cX5_put 13 = .ok (.iastore, 1) := by decide +kernel
theorem dX5_put_14 : decode cX5_put 14 = .ok (.return_, 1) := by decide +kernel
set_option maxHeartbeats 1000000 in
set_option maxRecDepth 100000 in
theorem c_X5_put (l : Launch) (G : GT) (a1 : Nat) (n1 : Nat) (f1 : Nat → Int32) (x2 : Int32) (x3 : Int32) (hlow : gL G ≤ a1) : Met l yX5_put (Cond.code yX5_put cX5_put 3 none :: bigW) ({ frames := 0, cells := 0, slots := 0, locals := 0 }) (BP G [.ref a1, .int x2, .int x3] (fun U H => PW G (a1W G a1 n1 f1) H)) (QE (none) (fun H => PW G (a1W G a1 n1 (fX5_put n1 f1 x2 x3)) H) (fun z => z = a1)) 0 0 (fun z => z = a1) := by
  refine met_of (by decide) (Nat.le_of_ble_eq_true rfl) ?_
  intro p e s m below meth c ls hC hKN hB0 hl
  have hP := hB0
  have hl : lv_has ls 3 [(0, .ref a1), (1, .int x2), (2, .int x3)] := hl
  have hS : va_S (fun z => z = a1) s.heap s.heap [] := va_S.rf
  have hAL : ∀ a, (fun z => z = a1) a → gL G ≤ a := fun a h => by rw [h]; exact hlow
  have hg : fX5_put n1 f1 x2 x3 = fX5_put n1 f1 x2 x3 := rfl
  refine lv_iload_n hC.1 hC.2.1 dX5_put_0 rfl (lv_at hl 1 rfl) ?_
  refine lv_if_lt (tgt := 14) hC.1 hC.2.1 dX5_put_1 (by decide) (fun k1 => ?_) (fun k1 => ?_)
  · have e_1 : fX5_put n1 f1 x2 x3 = f1 := by exact Eq.trans (if_pos k1) rfl
    have hg : fX5_put n1 f1 x2 x3 = f1 := hg.trans (congrArg (fun z => z) e_1)
    exact eE_v hC (by show PW G (a1W G a1 n1 (fX5_put n1 f1 x2 x3)) s.heap; rw [hg]; exact hP) hS dX5_put_14
  · refine lv_iload_n hC.1 hC.2.1 dX5_put_4 rfl (lv_at hl 1 rfl) ?_
    refine lv_aload_n hC.1 hC.2.1 dX5_put_5 rfl (lv_at hl 0 rfl) ?_
    refine alen_n hC hKN hP 0 rfl dX5_put_6 ?_
    refine lv_icmp_ge (tgt := 14) hC.1 hC.2.1 dX5_put_7 (by decide) (fun k7 => ?_) (fun k7 => ?_)
    · have e_2 : fX5_put n1 f1 x2 x3 = f1 := by exact Eq.trans (if_neg k1) (Eq.trans (if_pos k7) rfl)
      have hg : fX5_put n1 f1 x2 x3 = f1 := hg.trans (congrArg (fun z => z) e_2)
      exact eE_v hC (by show PW G (a1W G a1 n1 (fX5_put n1 f1 x2 x3)) s.heap; rw [hg]; exact hP) hS dX5_put_14
    · refine lv_aload_n hC.1 hC.2.1 dX5_put_10 rfl (lv_at hl 0 rfl) ?_
      refine lv_iload_n hC.1 hC.2.1 dX5_put_11 rfl (lv_at hl 1 rfl) ?_
      refine lv_iload_n hC.1 hC.2.1 dX5_put_12 rfl (lv_at hl 2 rfl) ?_
      refine iast_i hC hKN hP (a1W_D f1) hS 0 rfl (vp_path k1 k7) dX5_put_13 (fun H locs hq_3 hS => ?_)
      have hP : PW G (a1W G a1 n1 (upd f1 x2.toNatClampNeg x3)) H := hq_3
      have e_4 : fX5_put n1 f1 x2 x3 = upd f1 x2.toNatClampNeg x3 := by exact Eq.trans (if_neg k1) (Eq.trans (if_neg k7) rfl)
      have hg : fX5_put n1 f1 x2 x3 = upd f1 x2.toNatClampNeg x3 := hg.trans (congrArg (fun z => z) e_4)
      exact eE_v hC (by show PW G (a1W G a1 n1 (fX5_put n1 f1 x2 x3)) H; rw [hg]; exact hP) hS dX5_put_14

theorem dX3_pushFront_0 : decode cX3_pushFront 0 = .ok (.aload_n 0, 1) := by decide +kernel
theorem dX3_pushFront_1 : decode cX3_pushFront 1 = .ok (.arraylength, 1) := by decide +kernel
theorem dX3_pushFront_2 : decode cX3_pushFront 2 = .ok (.iconst 1, 1) := by decide +kernel
theorem dX3_pushFront_3 : decode cX3_pushFront 3 = .ok (.isub, 1) := by decide +kernel
theorem dX3_pushFront_4 : decode cX3_pushFront 4 = .ok (.istore_n 2, 1) := by decide +kernel
theorem dX3_pushFront_5 : decode cX3_pushFront 5 = .ok (.iload_n 2, 1) := by decide +kernel
theorem dX3_pushFront_6 : decode cX3_pushFront 6 = .ok (.ifCond .le 17, 3) := by decide +kernel
theorem dX3_pushFront_9 : decode cX3_pushFront 9 = .ok (.aload_n 0, 1) := by decide +kernel
theorem dX3_pushFront_10 : decode cX3_pushFront 10 = .ok (.iload_n 2, 1) := by decide +kernel
theorem dX3_pushFront_11 : decode cX3_pushFront 11 = .ok (.aload_n 0, 1) := by decide +kernel
theorem dX3_pushFront_12 : decode cX3_pushFront 12 = .ok (.iload_n 2, 1) := by decide +kernel
theorem dX3_pushFront_13 : decode cX3_pushFront 13 = .ok (.iconst 1, 1) := by decide +kernel
theorem dX3_pushFront_14 : decode cX3_pushFront 14 = .ok (.isub, 1) := by decide +kernel
theorem dX3_pushFront_15 : decode cX3_pushFront 15 = .ok (.iaload, 1) := by decide +kernel
theorem dX3_pushFront_16 : decode cX3_pushFront 16 = .ok (.iastore, 1) := by decide +kernel
theorem dX3_pushFront_17 : decode cX3_pushFront 17 = .ok (.iinc 2 (-1), 3) := by decide +kernel
theorem dX3_pushFront_20 : decode cX3_pushFront 20 = .ok (.goto (-15), 3) := by decide +kernel
theorem dX3_pushFront_23 : decode cX3_pushFront 23 = .ok (.aload_n 0, 1) := by decide +kernel
theorem dX3_pushFront_24 : decode cX3_pushFront 24 = .ok (.iconst 0, 1) := by decide +kernel
theorem dX3_pushFront_25 : decode cX3_pushFront 25 = .ok (.iload_n 1, 1) := by decide +kernel
theorem dX3_pushFront_26 : decode cX3_pushFront 26 = .ok (.invokestatic 39, 3) := by decide +kernel
theorem dX3_pushFront_29 : decode cX3_pushFront 29 = .ok (.return_, 1) := by decide +kernel
set_option maxHeartbeats 1000000 in
set_option maxRecDepth 100000 in
theorem c_X3_pushFront (l : Launch) (G : GT) (a1 : Nat) (f1 : Nat → Int32) (x2 : Int32) (hlow : gL G ≤ a1) : Met l yX3_pushFront (Cond.code yX3_pushFront cX3_pushFront 3 none :: bigW) ({ frames := 1, cells := 0, slots := 0, locals := 22 }) (BP G [.ref a1, .int x2] (fun U H => PW G (a1W G a1 12 f1) H)) (QE (none) (fun H => PW G (a1W G a1 12 (fX3_pushFront f1 x2)) H) (fun z => z = a1)) 0 0 (fun z => z = a1) := by
  refine met_of (by decide) (Nat.le_of_ble_eq_true rfl) ?_
  intro p e s m below meth c ls hC hKN hB0 hl
  have hP := hB0
  have hl : lv_has ls 3 [(0, .ref a1), (1, .int x2)] := hl
  have hS : va_S (fun z => z = a1) s.heap s.heap [] := va_S.rf
  have hAL : ∀ a, (fun z => z = a1) a → gL G ≤ a := fun a h => by rw [h]; exact hlow
  have hg : fX3_pushFront f1 x2 = fX3_pushFront f1 x2 := rfl
  refine lv_aload_n hC.1 hC.2.1 dX3_pushFront_0 rfl (lv_at hl 0 rfl) ?_
  refine alen_n hC hKN hP 0 rfl dX3_pushFront_1 ?_
  refine lv_iconst (v := 1) hC.1 hC.2.1 dX3_pushFront_2 (by decide) ?_
  refine lv_isub hC.1 hC.2.1 dX3_pushFront_3 ?_
  rw [show (nI 12) - 1 = nI 11 from (by decide)]
  refine lv_istore_n (lv' := [(2, .int (nI 11)), (0, .ref a1), (1, .int x2)]) hC.1 hC.2.1 dX3_pushFront_4 rfl hl (by decide) rfl (fun ls hl => ?_)
  have A5 : ∀ (f_5 : Nat → Int32), fX3_pushFront f1 x2 = (tX3_pushFront_5 f1 x2 f_5) → ∀ (H : Heap) (locs : List Loc), PW G (a1W G a1 12 f_5) H → va_S (fun z => z = a1) s.heap H locs → ∀ (ls : Array Slot), lv_has ls 3 [(0, .ref a1), (1, .int x2)] → W p l e ({ frames := 1, cells := 0, slots := 0, locals := 22 }) s m ([.ref a1, .int x2] : List Value).toArray below meth c H locs 0 0 (MQ below (QE (none) (fun H => PW G (a1W G a1 12 (fX3_pushFront f1 x2)) H) (fun z => z = a1)) ([.ref a1, .int x2] : List Value).toArray s 0 0 (fun z => z = a1)) (F0 m 23 ls []) := by
    intro  f_5 hg H locs hP hS ls hl
    refine lv_aload_n hC.1 hC.2.1 dX3_pushFront_23 rfl (lv_at hl 0 rfl) ?_
    refine lv_iconst (v := 0) hC.1 hC.2.1 dX3_pushFront_24 (by decide) ?_
    refine lv_iload_n hC.1 hC.2.1 dX3_pushFront_25 rfl (lv_at hl 1 rfl) ?_
    refine runE (rSN (B := fun U H => PW G (a1W G a1 12 f_5) H) (As := [.ref a1, .int 0, .int x2]) (rest := []) hC mwX5_put (c_X5_put l G a1 12 f_5 0 x2 hlow) wd_477 (nm_8 (hKN.go hAL hS)) ⟨rfl, rfl⟩ ⟨Nat.le_of_ble_eq_true rfl, Nat.le_of_ble_eq_true rfl⟩ (stb_h (fun H => PW G (a1W G a1 12 f_5) H)) (hKN.go hAL hS) hP rfl hl.1 rfl (Nat.le_of_ble_eq_true rfl) dX3_pushFront_26 ⟨Nat.zero_le _, Nat.zero_le _⟩) hS (fun _ h => h) (fun _ h => h) (fun H locs hq_1 _ hk_3 hS => ?_)
    have hP : PW G (a1W G a1 12 (fX5_put 12 f_5 0 x2)) H := hq_1
    have e_4 : tX3_pushFront_5 f1 x2 f_5 = fX5_put 12 f_5 0 x2 := by exact rfl
    have hg : fX3_pushFront f1 x2 = fX5_put 12 f_5 0 x2 := hg.trans (congrArg (fun z => z) e_4)
    exact eE_v hC (by show PW G (a1W G a1 12 (fX3_pushFront f1 x2)) H; rw [hg]; exact hP) hS dX3_pushFront_29
  have L5 : ∀ (n5 : Nat), ∀ (f_5 : Nat → Int32), n5 ≤ 11 → fX3_pushFront f1 x2 = (tX3_pushFront_5 f1 x2 (lpD n5 (bX3_pushFront_5 f1 x2) f_5)) → ∀ (H : Heap) (locs : List Loc), PW G (a1W G a1 12 f_5) H → va_S (fun z => z = a1) s.heap H locs → ∀ (ls : Array Slot), lv_has ls 3 [(0, .ref a1), (1, .int x2), (2, .int (nI n5))] → W p l e ({ frames := 1, cells := 0, slots := 0, locals := 22 }) s m ([.ref a1, .int x2] : List Value).toArray below meth c H locs 0 0 (MQ below (QE (none) (fun H => PW G (a1W G a1 12 (fX3_pushFront f1 x2)) H) (fun z => z = a1)) ([.ref a1, .int x2] : List Value).toArray s 0 0 (fun z => z = a1)) (F0 m 5 ls []) := by
    intro n5
    induction n5 with
    | zero =>
      intro f_5 hd hg H locs hP hS ls hl
      refine lv_iload_n hC.1 hC.2.1 dX3_pushFront_5 rfl (lv_at hl 2 rfl) ?_
      refine lv_if_le (tgt := 23) hC.1 hC.2.1 dX3_pushFront_6 (by decide) (fun k6 => ?_) (fun k6 => ?_)
      · exact A5  f_5 hg _ _ hP hS _ (lv_sub hl [0, 1] rfl)
      · exact absurd (by decide) k6
    | succ n5 ih =>
      intro f_5 hd hg H locs hP hS ls hl
      have hg : fX3_pushFront f1 x2 = (tX3_pushFront_5 f1 x2 (lpD n5 (bX3_pushFront_5 f1 x2) (bX3_pushFront_5 f1 x2 (n5 + 1) f_5))) := hg
      refine lv_iload_n hC.1 hC.2.1 dX3_pushFront_5 rfl (lv_at hl 2 rfl) ?_
      refine lv_if_le (tgt := 23) hC.1 hC.2.1 dX3_pushFront_6 (by decide) (fun k6 => ?_) (fun k6 => ?_)
      · exact absurd k6 (nI_nle (by omega) (by omega))
      · refine lv_aload_n hC.1 hC.2.1 dX3_pushFront_9 rfl (lv_at hl 0 rfl) ?_
        refine lv_iload_n hC.1 hC.2.1 dX3_pushFront_10 rfl (lv_at hl 2 rfl) ?_
        refine lv_aload_n hC.1 hC.2.1 dX3_pushFront_11 rfl (lv_at hl 0 rfl) ?_
        refine lv_iload_n hC.1 hC.2.1 dX3_pushFront_12 rfl (lv_at hl 2 rfl) ?_
        refine lv_iconst (v := 1) hC.1 hC.2.1 dX3_pushFront_13 (by decide) ?_
        refine lv_isub hC.1 hC.2.1 dX3_pushFront_14 ?_
        refine iald_k hC (hKN.go hAL hS) hP 0 rfl (n := 12) (f := f_5) ((n5 + 1) - 1) (nE_sub (rfl) (rfl) (by omega)) (by omega) (by first | decide | omega) dX3_pushFront_15 ?_
        refine lv_topi (fun w_5 ew_5 => ?_)
        refine iast_k hC (hKN.go hAL hS) hP (a1W_D f_5) hS 0 rfl (n := 12) (f := f_5) (n5 + 1) (rfl) (by omega) (by first | decide | omega) dX3_pushFront_16 (fun H locs hq_6 hS => ?_)
        have hP : PW G (a1W G a1 12 (upd f_5 (n5 + 1) w_5)) H := hq_6
        refine lv_iinc (v := nI n5) (lv' := [(2, .int (nI n5)), (0, .ref a1), (1, .int x2)]) hC.1 hC.2.1 dX3_pushFront_17 hl (k := 2) rfl (pk_m1 _) (by decide) rfl (fun ls hl => ?_)
        refine lv_goto (tgt := 5) hC.1 hC.2.1 dX3_pushFront_20 (by decide) ?_
        have e_7 : bX3_pushFront_5 f1 x2 (n5 + 1) f_5 = upd f_5 (n5 + 1) w_5 := by subst ew_5; exact rfl
        have hg : fX3_pushFront f1 x2 = (tX3_pushFront_5 f1 x2 (lpD n5 (bX3_pushFront_5 f1 x2) (upd f_5 (n5 + 1) w_5))) := hg.trans (congrArg (fun z => (tX3_pushFront_5 f1 x2 (lpD n5 (bX3_pushFront_5 f1 x2) z))) e_7)
        exact ih (upd f_5 (n5 + 1) w_5) (by omega) hg _ _ hP hS _ (lv_sub hl [1, 2, 0] rfl)
  have e_8 : fX3_pushFront f1 x2 = tX3_pushFront_5 f1 x2 (lpD 11 (bX3_pushFront_5 f1 x2) f1) := by exact rfl
  have hg : fX3_pushFront f1 x2 = (tX3_pushFront_5 f1 x2 (lpD 11 (bX3_pushFront_5 f1 x2) f1)) := hg.trans (congrArg (fun z => z) e_8)
  exact L5  11 f1 (Nat.le_refl _) hg _ _ hP hS _ (lv_sub hl [1, 2, 0] rfl)

theorem dX4_addDots_0 : decode cX4_addDots 0 = .ok (.iconst 0, 1) := by decide +kernel
theorem dX4_addDots_1 : decode cX4_addDots 1 = .ok (.istore_n 2, 1) := by decide +kernel
theorem dX4_addDots_2 : decode cX4_addDots 2 = .ok (.iload_n 2, 1) := by decide +kernel
theorem dX4_addDots_3 : decode cX4_addDots 3 = .ok (.aload_n 0, 1) := by decide +kernel
theorem dX4_addDots_4 : decode cX4_addDots 4 = .ok (.arraylength, 1) := by decide +kernel
theorem dX4_addDots_5 : decode cX4_addDots 5 = .ok (.if_icmp .ge 20, 3) := by decide +kernel
theorem dX4_addDots_8 : decode cX4_addDots 8 = .ok (.aload_n 0, 1) := by decide +kernel
theorem dX4_addDots_9 : decode cX4_addDots 9 = .ok (.iload_n 2, 1) := by decide +kernel
theorem dX4_addDots_10 : decode cX4_addDots 10 = .ok (.dup2, 1) := by decide +kernel
theorem dX4_addDots_11 : decode cX4_addDots 11 = .ok (.iaload, 1) := by decide +kernel
theorem dX4_addDots_12 : decode cX4_addDots 12 = .ok (.iload_n 1, 1) := by decide +kernel
theorem dX4_addDots_13 : decode cX4_addDots 13 = .ok (.iload_n 2, 1) := by decide +kernel
theorem dX4_addDots_14 : decode cX4_addDots 14 = .ok (.invokestatic 54, 3) := by decide +kernel
theorem dX4_addDots_17 : decode cX4_addDots 17 = .ok (.iadd, 1) := by decide +kernel
theorem dX4_addDots_18 : decode cX4_addDots 18 = .ok (.iastore, 1) := by decide +kernel
theorem dX4_addDots_19 : decode cX4_addDots 19 = .ok (.iinc 2 1, 3) := by decide +kernel
theorem dX4_addDots_22 : decode cX4_addDots 22 = .ok (.goto (-20), 3) := by decide +kernel
theorem dX4_addDots_25 : decode cX4_addDots 25 = .ok (.return_, 1) := by decide +kernel
set_option maxHeartbeats 1000000 in
set_option maxRecDepth 100000 in
theorem c_X4_addDots (l : Launch) (G : GT) (a1 : Nat) (f1 : Nat → Int32) (x2 : Int32) (hlow : gL G ≤ a1) : Met l yX4_addDots (Cond.code yX4_addDots cX4_addDots 3 none :: bigW) ({ frames := 1, cells := 0, slots := 0, locals := 21 }) (BP G [.ref a1, .int x2] (fun U H => PW G (a1W G a1 24 f1) H)) (QE (none) (fun H => PW G (a1W G a1 24 (fX4_addDots f1 x2)) H) (fun z => z = a1)) 0 0 (fun z => z = a1) := by
  refine met_of (by decide) (Nat.le_of_ble_eq_true rfl) ?_
  intro p e s m below meth c ls hC hKN hB0 hl
  have hP := hB0
  have hl : lv_has ls 3 [(0, .ref a1), (1, .int x2)] := hl
  have hS : va_S (fun z => z = a1) s.heap s.heap [] := va_S.rf
  have hAL : ∀ a, (fun z => z = a1) a → gL G ≤ a := fun a h => by rw [h]; exact hlow
  have hg : fX4_addDots f1 x2 = fX4_addDots f1 x2 := rfl
  refine lv_iconst (v := 0) hC.1 hC.2.1 dX4_addDots_0 (by decide) ?_
  refine lv_istore_n (lv' := [(2, .int 0), (0, .ref a1), (1, .int x2)]) hC.1 hC.2.1 dX4_addDots_1 rfl hl (by decide) rfl (fun ls hl => ?_)
  have A2 : ∀ (f_2 : Nat → Int32), fX4_addDots f1 x2 = (tX4_addDots_2 f1 x2 f_2) → ∀ (H : Heap) (locs : List Loc), PW G (a1W G a1 24 f_2) H → va_S (fun z => z = a1) s.heap H locs → ∀ (ls : Array Slot), lv_has ls 3 [] → W p l e ({ frames := 1, cells := 0, slots := 0, locals := 21 }) s m ([.ref a1, .int x2] : List Value).toArray below meth c H locs 0 0 (MQ below (QE (none) (fun H => PW G (a1W G a1 24 (fX4_addDots f1 x2)) H) (fun z => z = a1)) ([.ref a1, .int x2] : List Value).toArray s 0 0 (fun z => z = a1)) (F0 m 25 ls []) := by
    intro  f_2 hg H locs hP hS ls hl
    have e_1 : tX4_addDots_2 f1 x2 f_2 = f_2 := by exact rfl
    have hg : fX4_addDots f1 x2 = f_2 := hg.trans (congrArg (fun z => z) e_1)
    exact eE_v hC (by show PW G (a1W G a1 24 (fX4_addDots f1 x2)) H; rw [hg]; exact hP) hS dX4_addDots_25
  have L2 : ∀ (n2 d2 : Nat), ∀ (f_2 : Nat → Int32), d2 + n2 = 24 → fX4_addDots f1 x2 = (tX4_addDots_2 f1 x2 (lpF n2 d2 (bX4_addDots_2 f1 x2) f_2)) → ∀ (H : Heap) (locs : List Loc), PW G (a1W G a1 24 f_2) H → va_S (fun z => z = a1) s.heap H locs → ∀ (ls : Array Slot), lv_has ls 3 [(0, .ref a1), (1, .int x2), (2, .int (nI d2))] → W p l e ({ frames := 1, cells := 0, slots := 0, locals := 21 }) s m ([.ref a1, .int x2] : List Value).toArray below meth c H locs 0 0 (MQ below (QE (none) (fun H => PW G (a1W G a1 24 (fX4_addDots f1 x2)) H) (fun z => z = a1)) ([.ref a1, .int x2] : List Value).toArray s 0 0 (fun z => z = a1)) (F0 m 2 ls []) := by
    intro n2
    induction n2 with
    | zero =>
      intro d2 f_2 hd hg H locs hP hS ls hl
      refine lv_iload_n hC.1 hC.2.1 dX4_addDots_2 rfl (lv_at hl 2 rfl) ?_
      refine lv_aload_n hC.1 hC.2.1 dX4_addDots_3 rfl (lv_at hl 0 rfl) ?_
      refine alen_n hC (hKN.go hAL hS) hP 0 rfl dX4_addDots_4 ?_
      refine lv_icmp_ge (tgt := 25) hC.1 hC.2.1 dX4_addDots_5 (by decide) (fun k5 => ?_) (fun k5 => ?_)
      · exact A2  f_2 hg _ _ hP hS _ (lv_sub hl [] rfl)
      · exact absurd (nI_le (a := 24) (b := d2) (by omega) (by omega)) k5
    | succ n2 ih =>
      intro d2 f_2 hd hg H locs hP hS ls hl
      have hg : fX4_addDots f1 x2 = (tX4_addDots_2 f1 x2 (lpF n2 (d2 + 1) (bX4_addDots_2 f1 x2) (bX4_addDots_2 f1 x2 d2 f_2))) := hg
      refine lv_iload_n hC.1 hC.2.1 dX4_addDots_2 rfl (lv_at hl 2 rfl) ?_
      refine lv_aload_n hC.1 hC.2.1 dX4_addDots_3 rfl (lv_at hl 0 rfl) ?_
      refine alen_n hC (hKN.go hAL hS) hP 0 rfl dX4_addDots_4 ?_
      refine lv_icmp_ge (tgt := 25) hC.1 hC.2.1 dX4_addDots_5 (by decide) (fun k5 => ?_) (fun k5 => ?_)
      · exact absurd k5 (nI_ge (a := d2) (b := 24) (by omega) (by omega))
      · refine lv_aload_n hC.1 hC.2.1 dX4_addDots_8 rfl (lv_at hl 0 rfl) ?_
        refine lv_iload_n hC.1 hC.2.1 dX4_addDots_9 rfl (lv_at hl 2 rfl) ?_
        refine lv_dup2_11 hC.1 hC.2.1 dX4_addDots_10 rfl rfl ?_
        refine iald_k hC (hKN.go hAL hS) hP 0 rfl (n := 24) (f := f_2) d2 (rfl) (by omega) (by first | decide | omega) dX4_addDots_11 ?_
        refine lv_iload_n hC.1 hC.2.1 dX4_addDots_12 rfl (lv_at hl 1 rfl) ?_
        refine lv_iload_n hC.1 hC.2.1 dX4_addDots_13 rfl (lv_at hl 2 rfl) ?_
        refine runP (rSN (B := fun U H => True) (As := [.int x2, .int (nI d2)]) (rest := [.int (f_2 d2), .int (nI d2), .ref a1]) hC mwX5_bitOf (c_X5_bitOf l G x2 (nI d2)) wd_331 (nm_9 (hKN.go hAL hS)) ⟨rfl, rfl⟩ ⟨Nat.le_of_ble_eq_true rfl, Nat.le_of_ble_eq_true rfl⟩ (fun _ _ _ _ h => h) (hKN.go hAL hS) trivial rfl hl.1 rfl (Nat.le_of_ble_eq_true rfl) dX4_addDots_14 ⟨Nat.zero_le _, Nat.zero_le _⟩) ?_
        refine lv_iadd hC.1 hC.2.1 dX4_addDots_17 ?_
        refine lv_topi (fun w_2 ew_2 => ?_)
        refine iast_k hC (hKN.go hAL hS) hP (a1W_D f_2) hS 0 rfl (n := 24) (f := f_2) d2 (rfl) (by omega) (by first | decide | omega) dX4_addDots_18 (fun H locs hq_3 hS => ?_)
        have hP : PW G (a1W G a1 24 (upd f_2 d2 w_2)) H := hq_3
        refine lv_iinc (v := nI (d2 + 1)) (lv' := [(2, .int (nI (d2 + 1))), (0, .ref a1), (1, .int x2)]) hC.1 hC.2.1 dX4_addDots_19 hl (k := 2) rfl (nI_1 _) (by decide) rfl (fun ls hl => ?_)
        refine lv_goto (tgt := 2) hC.1 hC.2.1 dX4_addDots_22 (by decide) ?_
        have e_4 : bX4_addDots_2 f1 x2 d2 f_2 = upd f_2 d2 w_2 := by subst ew_2; exact rfl
        have hg : fX4_addDots f1 x2 = (tX4_addDots_2 f1 x2 (lpF n2 (d2 + 1) (bX4_addDots_2 f1 x2) (upd f_2 d2 w_2))) := hg.trans (congrArg (fun z => (tX4_addDots_2 f1 x2 (lpF n2 (d2 + 1) (bX4_addDots_2 f1 x2) z))) e_4)
        exact ih (d2 + 1) (upd f_2 d2 w_2) (by omega) hg _ _ hP hS _ (lv_sub hl [1, 2, 0] rfl)
  have e_5 : fX4_addDots f1 x2 = tX4_addDots_2 f1 x2 (lpF 24 0 (bX4_addDots_2 f1 x2) f1) := by exact rfl
  have hg : fX4_addDots f1 x2 = (tX4_addDots_2 f1 x2 (lpF 24 0 (bX4_addDots_2 f1 x2) f1)) := hg.trans (congrArg (fun z => z) e_5)
  exact L2  24 0 f1 (by omega) hg _ _ hP hS _ (lv_sub hl [1, 2, 0] rfl)
