def tX2_preparePulses_11 (v : SV) (x1 : Int32) (y2_11 : Int32) (s : SV) : SV := let v_11 := s; v_11
def bX2_preparePulses_11 (v : SV) (x1 : Int32) (y2_11 : Int32) (d11 : Nat) (s : SV) : SV := let v_11 := s; let w_2 : Int32 := fX2_pulseIn v_11 x1 (nI d11) y2_11; mkS (v_11 0) (upd (v_11 1) d11 w_2) (v_11 2) (v_11 3) (v_11 4) (v_11 5) (v_11 6) (v_11 7) (v_11 8 0) (v_11 8 1) (v_11 8 2) (v_11 8 3) (v_11 8 4) (v_11 8 5) (v_11 8 6) (v_11 8 7) (v_11 8 8) (v_11 8 9) (v_11 8 10)
def fX2_preparePulses (v : SV) (x1 : Int32) : SV := tX2_preparePulses_11 v x1 (fX5_at 7 (v 2) 0) (lpF 24 0 (bX2_preparePulses_11 v x1 (fX5_at 7 (v 2) 0)) v)
def tX2_heatPart_4 (v : SV) (x1 : Int32) (s : Int32 × SV) : SV × Int32 := let y2_4 := s.1; let v_4 := s.2; (v_4, y2_4)
def bX2_heatPart_4 (v : SV) (x1 : Int32) (d4 : Nat) (s : Int32 × SV) : Int32 × SV := let y2_4 := s.1; let v_4 := s.2; if (fX5_bitOf x1 (nI d4)) = 1 then (let w_3 : Int32 := ((v_4 0) d4) + (fX5_at 24 (v_4 1) (nI d4)); let w_5 : Int32 := (if (v_4 8 7) < ((upd (v_4 0) d4 w_3) d4) then ((upd (v_4 0) d4 w_3) d4) else (v_4 8 7)); if (fX2_isDark (mkS (upd (v_4 0) d4 w_3) (v_4 1) (v_4 2) (v_4 3) (v_4 4) (v_4 5) (v_4 6) (v_4 7) (v_4 8 0) (v_4 8 1) (v_4 8 2) (v_4 8 3) (v_4 8 4) (v_4 8 5) (v_4 8 6) w_5 (v_4 8 8) (v_4 8 9) (v_4 8 10)) ((upd (v_4 0) d4 w_3) d4)) = 0 then ((y2_4 ||| 0, mkS (upd (v_4 0) d4 w_3) (v_4 1) (v_4 2) (v_4 3) (v_4 4) (v_4 5) (v_4 6) (v_4 7) (v_4 8 0) (v_4 8 1) (v_4 8 2) (v_4 8 3) (v_4 8 4) (v_4 8 5) (v_4 8 6) w_5 (v_4 8 8) (v_4 8 9) (v_4 8 10))) else ((y2_4 ||| (1 <<< ((nI d4) &&& 31)), mkS (upd (v_4 0) d4 w_3) (v_4 1) (v_4 2) (v_4 3) (v_4 4) (v_4 5) (v_4 6) (v_4 7) (v_4 8 0) (v_4 8 1) (v_4 8 2) (v_4 8 3) (v_4 8 4) (v_4 8 5) (v_4 8 6) w_5 (v_4 8 8) (v_4 8 9) (v_4 8 10)))) else ((y2_4, v_4))
def fX2_heatPart (v : SV) (x1 : Int32) : SV × Int32 := tX2_heatPart_4 v x1 (lpF 24 0 (bX2_heatPart_4 v x1) (0, v))
def tX2_passTime_2 (v : SV) (x1 : Int32) (s : SV) : SV := let v_2 := s; let w_1 : Int32 := (v_2 8 1) + x1; mkS (v_2 0) (v_2 1) (v_2 2) (v_2 3) (v_2 4) (v_2 5) (v_2 6) (v_2 7) (v_2 8 0) w_1 (v_2 8 2) (v_2 8 3) (v_2 8 4) (v_2 8 5) (v_2 8 6) (v_2 8 7) (v_2 8 8) (v_2 8 9) (v_2 8 10)
def bX2_passTime_2 (v : SV) (x1 : Int32) (d2 : Nat) (s : SV) : SV := let v_2 := s; let w_4 : Int32 := fX2_cooledFor v_2 ((v_2 0) d2) x1; mkS (upd (v_2 0) d2 w_4) (v_2 1) (v_2 2) (v_2 3) (v_2 4) (v_2 5) (v_2 6) (v_2 7) (v_2 8 0) (v_2 8 1) (v_2 8 2) (v_2 8 3) (v_2 8 4) (v_2 8 5) (v_2 8 6) (v_2 8 7) (v_2 8 8) (v_2 8 9) (v_2 8 10)
def fX2_passTime (v : SV) (x1 : Int32) : SV := tX2_passTime_2 v x1 (lpF 24 0 (bX2_passTime_2 v x1) v)
def fX2_changePaper (v : SV) (x1 : Int32) : SV := mkS (v 0) (v 1) (v 2) (v 3) (v 4) (v 5) (v 6) (v 7) 0 (v 8 1) (v 8 2) (v 8 3) (v 8 4) (v 8 5) (v 8 6) (v 8 7) (v 8 8) (v 8 9) x1
def fX2_changeSetting (v : SV) (x1 : Int32) (x2 : Int32) : SV := mkS (v 0) (v 1) (fX5_put 7 (v 2) x1 x2) (v 3) (v 4) (v 5) (v 6) (v 7) (v 8 0) (v 8 1) (v 8 2) (v 8 3) (v 8 4) (v 8 5) (v 8 6) (v 8 7) (v 8 8) (v 8 9) (v 8 10)
theorem dX2_preparePulses_0 : decode cX2_preparePulses 0 = .ok (.aload_n 0, 1) := by decide +kernel
theorem dX2_preparePulses_1 : decode cX2_preparePulses 1 = .ok (.getfield 21, 3) := by decide +kernel
theorem dX2_preparePulses_4 : decode cX2_preparePulses 4 = .ok (.iconst 0, 1) := by decide +kernel
theorem dX2_preparePulses_5 : decode cX2_preparePulses 5 = .ok (.invokestatic 59, 3) := by decide +kernel
theorem dX2_preparePulses_8 : decode cX2_preparePulses 8 = .ok (.istore_n 2, 1) := by decide +kernel
theorem dX2_preparePulses_9 : decode cX2_preparePulses 9 = .ok (.iconst 0, 1) := by decide +kernel
theorem dX2_preparePulses_10 : decode cX2_preparePulses 10 = .ok (.istore_n 3, 1) := by decide +kernel
theorem dX2_preparePulses_11 : decode cX2_preparePulses 11 = .ok (.iload_n 3, 1) := by decide +kernel
theorem dX2_preparePulses_12 : decode cX2_preparePulses 12 = .ok (.aload_n 0, 1) := by decide +kernel
theorem dX2_preparePulses_13 : decode cX2_preparePulses 13 = .ok (.getfield 15, 3) := by decide +kernel
theorem dX2_preparePulses_16 : decode cX2_preparePulses 16 = .ok (.arraylength, 1) := by decide +kernel
theorem dX2_preparePulses_17 : decode cX2_preparePulses 17 = .ok (.if_icmp .ge 22, 3) := by decide +kernel
theorem dX2_preparePulses_20 : decode cX2_preparePulses 20 = .ok (.aload_n 0, 1) := by decide +kernel
theorem dX2_preparePulses_21 : decode cX2_preparePulses 21 = .ok (.getfield 15, 3) := by decide +kernel
theorem dX2_preparePulses_24 : decode cX2_preparePulses 24 = .ok (.iload_n 3, 1) := by decide +kernel
theorem dX2_preparePulses_25 : decode cX2_preparePulses 25 = .ok (.aload_n 0, 1) := by decide +kernel
theorem dX2_preparePulses_26 : decode cX2_preparePulses 26 = .ok (.iload_n 1, 1) := by decide +kernel
theorem dX2_preparePulses_27 : decode cX2_preparePulses 27 = .ok (.iload_n 3, 1) := by decide +kernel
theorem dX2_preparePulses_28 : decode cX2_preparePulses 28 = .ok (.iload_n 2, 1) := by decide +kernel
theorem dX2_preparePulses_29 : decode cX2_preparePulses 29 = .ok (.invokevirtual 120, 3) := by decide +kernel
theorem dX2_preparePulses_32 : decode cX2_preparePulses 32 = .ok (.iastore, 1) := by decide +kernel
theorem dX2_preparePulses_33 : decode cX2_preparePulses 33 = .ok (.iinc 3 1, 3) := by decide +kernel
theorem dX2_preparePulses_36 : decode cX2_preparePulses 36 = .ok (.goto (-25), 3) := by decide +kernel
theorem dX2_preparePulses_39 : decode cX2_preparePulses 39 = .ok (.return_, 1) := by decide +kernel
set_option maxHeartbeats 1000000 in
set_option maxRecDepth 100000 in
theorem c_X2_preparePulses (l : Launch) (G : GT) (q : Nat → Nat) (v : SV) (x1 : Int32) (hq : stD G q) : Met l yX2_preparePulses (Cond.code yX2_preparePulses cX2_preparePulses 4 none :: bigW) ({ frames := 2, cells := 0, slots := 0, locals := 48 }) (BP G [.ref (q 0), .int x1] (fun U H => PW G (stW G q v) H)) (QE (none) (fun H => PW G (stW G q (fX2_preparePulses v x1)) H) (stA q)) 0 0 (stA q) := by
  refine met_of (by decide) (Nat.le_of_ble_eq_true rfl) ?_
  intro p e s m below meth c ls hC hKN hB0 hl
  have hP := hB0
  have hl : lv_has ls 4 [(0, .ref (q 0)), (1, .int x1)] := hl
  have hS : va_S (stA q) s.heap s.heap [] := va_S.rf
  have hAL : ∀ a, (stA q) a → gL G ≤ a := stD_low hq
  have hg : fX2_preparePulses v x1 = fX2_preparePulses v x1 := rfl
  refine lv_aload_n hC.1 hC.2.1 dX2_preparePulses_0 rfl (lv_at hl 0 rfl) ?_
  refine gf (v := .ref (q 3)) hC fwX2 hKN hP 0 rfl rfl 2 (by decide) rfl wd_110 rfl dX2_preparePulses_1 ?_
  refine lv_iconst (v := 0) hC.1 hC.2.1 dX2_preparePulses_4 (by decide) ?_
  refine runP (rSN (B := fun U H => RD (q 3) 7 (v 2) U H) (As := [.ref (q 3), .int 0]) (rest := []) hC mwX5_at (c_X5_at l G (q 3) 7 (v 2) 0) wd_328 (nm_1 hKN) ⟨rfl, rfl⟩ ⟨Nat.le_of_ble_eq_true rfl, Nat.le_of_ble_eq_true rfl⟩ (stb_RD _ _ _) hKN (RD.ofP hKN hP 3 rfl) rfl hl.1 rfl (Nat.le_of_ble_eq_true rfl) dX2_preparePulses_5 ⟨Nat.zero_le _, Nat.zero_le _⟩) ?_
  refine lv_istore_n (lv' := [(2, .int (fX5_at 7 (v 2) 0)), (0, .ref (q 0)), (1, .int x1)]) hC.1 hC.2.1 dX2_preparePulses_8 rfl hl (by decide) rfl (fun ls hl => ?_)
  refine lv_iconst (v := 0) hC.1 hC.2.1 dX2_preparePulses_9 (by decide) ?_
  refine lv_istore_n (lv' := [(3, .int 0), (2, .int (fX5_at 7 (v 2) 0)), (0, .ref (q 0)), (1, .int x1)]) hC.1 hC.2.1 dX2_preparePulses_10 rfl hl (by decide) rfl (fun ls hl => ?_)
  have A11 : ∀ (y2_11 : Int32), ∀ (v_11 : SV), fX2_preparePulses v x1 = (tX2_preparePulses_11 v x1 y2_11 v_11) → ∀ (H : Heap) (locs : List Loc), PW G (stW G q v_11) H → va_S (stA q) s.heap H locs → ∀ (ls : Array Slot), lv_has ls 4 [] → W p l e ({ frames := 2, cells := 0, slots := 0, locals := 48 }) s m ([.ref (q 0), .int x1] : List Value).toArray below meth c H locs 0 0 (MQ below (QE (none) (fun H => PW G (stW G q (fX2_preparePulses v x1)) H) (stA q)) ([.ref (q 0), .int x1] : List Value).toArray s 0 0 (stA q)) (F0 m 39 ls []) := by
    intro y2_11 v_11 hg H locs hP hS ls hl
    have e_1 : tX2_preparePulses_11 v x1 y2_11 v_11 = v_11 := by exact rfl
    have hg : fX2_preparePulses v x1 = v_11 := hg.trans (congrArg (fun z => z) e_1)
    exact eE_v hC (by show PW G (stW G q (fX2_preparePulses v x1)) H; rw [hg]; exact hP) hS dX2_preparePulses_39
  have L11 : ∀ (y2_11 : Int32), ∀ (n11 d11 : Nat), ∀ (v_11 : SV), d11 + n11 = 24 → fX2_preparePulses v x1 = (tX2_preparePulses_11 v x1 y2_11 (lpF n11 d11 (bX2_preparePulses_11 v x1 y2_11) v_11)) → ∀ (H : Heap) (locs : List Loc), PW G (stW G q v_11) H → va_S (stA q) s.heap H locs → ∀ (ls : Array Slot), lv_has ls 4 [(0, .ref (q 0)), (1, .int x1), (2, .int y2_11), (3, .int (nI d11))] → W p l e ({ frames := 2, cells := 0, slots := 0, locals := 48 }) s m ([.ref (q 0), .int x1] : List Value).toArray below meth c H locs 0 0 (MQ below (QE (none) (fun H => PW G (stW G q (fX2_preparePulses v x1)) H) (stA q)) ([.ref (q 0), .int x1] : List Value).toArray s 0 0 (stA q)) (F0 m 11 ls []) := by
    intro y2_11
    intro n11
    induction n11 with
    | zero =>
      intro d11 v_11 hd hg H locs hP hS ls hl
      refine lv_iload_n hC.1 hC.2.1 dX2_preparePulses_11 rfl (lv_at hl 3 rfl) ?_
      refine lv_aload_n hC.1 hC.2.1 dX2_preparePulses_12 rfl (lv_at hl 0 rfl) ?_
      refine gf (v := .ref (q 2)) hC fwX2 (hKN.go hAL hS) hP 0 rfl rfl 1 (by decide) rfl wd_109 rfl dX2_preparePulses_13 ?_
      refine alen_n hC (hKN.go hAL hS) hP 2 rfl dX2_preparePulses_16 ?_
      refine lv_icmp_ge (tgt := 39) hC.1 hC.2.1 dX2_preparePulses_17 (by decide) (fun k17 => ?_) (fun k17 => ?_)
      · exact A11 y2_11 v_11 hg _ _ hP hS _ (lv_sub hl [] rfl)
      · exact absurd (nI_le (a := 24) (b := d11) (by omega) (by omega)) k17
    | succ n11 ih =>
      intro d11 v_11 hd hg H locs hP hS ls hl
      have hg : fX2_preparePulses v x1 = (tX2_preparePulses_11 v x1 y2_11 (lpF n11 (d11 + 1) (bX2_preparePulses_11 v x1 y2_11) (bX2_preparePulses_11 v x1 y2_11 d11 v_11))) := hg
      refine lv_iload_n hC.1 hC.2.1 dX2_preparePulses_11 rfl (lv_at hl 3 rfl) ?_
      refine lv_aload_n hC.1 hC.2.1 dX2_preparePulses_12 rfl (lv_at hl 0 rfl) ?_
      refine gf (v := .ref (q 2)) hC fwX2 (hKN.go hAL hS) hP 0 rfl rfl 1 (by decide) rfl wd_109 rfl dX2_preparePulses_13 ?_
      refine alen_n hC (hKN.go hAL hS) hP 2 rfl dX2_preparePulses_16 ?_
      refine lv_icmp_ge (tgt := 39) hC.1 hC.2.1 dX2_preparePulses_17 (by decide) (fun k17 => ?_) (fun k17 => ?_)
      · exact absurd k17 (nI_ge (a := d11) (b := 24) (by omega) (by omega))
      · refine lv_aload_n hC.1 hC.2.1 dX2_preparePulses_20 rfl (lv_at hl 0 rfl) ?_
        refine gf (v := .ref (q 2)) hC fwX2 (hKN.go hAL hS) hP 0 rfl rfl 1 (by decide) rfl wd_109 rfl dX2_preparePulses_21 ?_
        refine lv_iload_n hC.1 hC.2.1 dX2_preparePulses_24 rfl (lv_at hl 3 rfl) ?_
        refine lv_aload_n hC.1 hC.2.1 dX2_preparePulses_25 rfl (lv_at hl 0 rfl) ?_
        refine lv_iload_n hC.1 hC.2.1 dX2_preparePulses_26 rfl (lv_at hl 1 rfl) ?_
        refine lv_iload_n hC.1 hC.2.1 dX2_preparePulses_27 rfl (lv_at hl 3 rfl) ?_
        refine lv_iload_n hC.1 hC.2.1 dX2_preparePulses_28 rfl (lv_at hl 2 rfl) ?_
        refine runP (rV (B := fun U H => PW G (stW G q v_11) H) (As := [.int x1, .int (nI d11), .int y2_11]) (rest := [.int (nI d11), .ref (q 2)]) hC mwX2_pulseIn (c_X2_pulseIn l G q v_11 x1 (nI d11) y2_11) iwX2_pulseIn wd_337 ⟨rfl, rfl⟩ ⟨Nat.le_of_ble_eq_true rfl, Nat.le_of_ble_eq_true rfl⟩ (stb_h (fun H => PW G (stW G q v_11) H)) (hKN.go hAL hS) hP (va_recv (hKN.go hAL hS).k hP (ci := 2) (q0 := 0) rfl rfl) rfl hl.1 rfl (Nat.le_of_ble_eq_true rfl) dX2_preparePulses_29 ⟨Nat.zero_le _, Nat.zero_le _⟩) ?_
        refine lv_topi (fun w_2 ew_2 => ?_)
        refine iast_k hC (hKN.go hAL hS) hP (stD_D hq v_11) hS 2 rfl (n := 24) (f := (v_11 1)) d11 (rfl) (by omega) (by first | decide | omega) dX2_preparePulses_32 (fun H locs hq_3 hS => ?_)
        have hP : PW G (stW G q (mkS (v_11 0) (upd (v_11 1) d11 w_2) (v_11 2) (v_11 3) (v_11 4) (v_11 5) (v_11 6) (v_11 7) (v_11 8 0) (v_11 8 1) (v_11 8 2) (v_11 8 3) (v_11 8 4) (v_11 8 5) (v_11 8 6) (v_11 8 7) (v_11 8 8) (v_11 8 9) (v_11 8 10))) H := hq_3
        refine lv_iinc (v := nI (d11 + 1)) (lv' := [(3, .int (nI (d11 + 1))), (0, .ref (q 0)), (1, .int x1), (2, .int y2_11)]) hC.1 hC.2.1 dX2_preparePulses_33 hl (k := 3) rfl (nI_1 _) (by decide) rfl (fun ls hl => ?_)
        refine lv_goto (tgt := 11) hC.1 hC.2.1 dX2_preparePulses_36 (by decide) ?_
        have e_4 : bX2_preparePulses_11 v x1 y2_11 d11 v_11 = mkS (v_11 0) (upd (v_11 1) d11 w_2) (v_11 2) (v_11 3) (v_11 4) (v_11 5) (v_11 6) (v_11 7) (v_11 8 0) (v_11 8 1) (v_11 8 2) (v_11 8 3) (v_11 8 4) (v_11 8 5) (v_11 8 6) (v_11 8 7) (v_11 8 8) (v_11 8 9) (v_11 8 10) := by subst ew_2; exact rfl
        have hg : fX2_preparePulses v x1 = (tX2_preparePulses_11 v x1 y2_11 (lpF n11 (d11 + 1) (bX2_preparePulses_11 v x1 y2_11) (mkS (v_11 0) (upd (v_11 1) d11 w_2) (v_11 2) (v_11 3) (v_11 4) (v_11 5) (v_11 6) (v_11 7) (v_11 8 0) (v_11 8 1) (v_11 8 2) (v_11 8 3) (v_11 8 4) (v_11 8 5) (v_11 8 6) (v_11 8 7) (v_11 8 8) (v_11 8 9) (v_11 8 10)))) := hg.trans (congrArg (fun z => (tX2_preparePulses_11 v x1 y2_11 (lpF n11 (d11 + 1) (bX2_preparePulses_11 v x1 y2_11) z))) e_4)
        exact ih (d11 + 1) (mkS (v_11 0) (upd (v_11 1) d11 w_2) (v_11 2) (v_11 3) (v_11 4) (v_11 5) (v_11 6) (v_11 7) (v_11 8 0) (v_11 8 1) (v_11 8 2) (v_11 8 3) (v_11 8 4) (v_11 8 5) (v_11 8 6) (v_11 8 7) (v_11 8 8) (v_11 8 9) (v_11 8 10)) (by omega) hg _ _ hP hS _ (lv_sub hl [1, 2, 3, 0] rfl)
  have e_5 : fX2_preparePulses v x1 = tX2_preparePulses_11 v x1 (fX5_at 7 (v 2) 0) (lpF 24 0 (bX2_preparePulses_11 v x1 (fX5_at 7 (v 2) 0)) v) := by exact rfl
  have hg : fX2_preparePulses v x1 = (tX2_preparePulses_11 v x1 (fX5_at 7 (v 2) 0) (lpF 24 0 (bX2_preparePulses_11 v x1 (fX5_at 7 (v 2) 0)) v)) := hg.trans (congrArg (fun z => z) e_5)
  exact L11 (fX5_at 7 (v 2) 0) 24 0 v (by omega) hg _ _ hP hS _ (lv_sub hl [2, 3, 1, 0] rfl)

theorem dX2_heatPart_0 : decode cX2_heatPart 0 = .ok (.iconst 0, 1) := by decide +kernel
theorem dX2_heatPart_1 : decode cX2_heatPart 1 = .ok (.istore_n 2, 1) := by decide +kernel
theorem dX2_heatPart_2 : decode cX2_heatPart 2 = .ok (.iconst 0, 1) := by decide +kernel
theorem dX2_heatPart_3 : decode cX2_heatPart 3 = .ok (.istore_n 3, 1) := by decide +kernel
theorem dX2_heatPart_4 : decode cX2_heatPart 4 = .ok (.iload_n 3, 1) := by decide +kernel
theorem dX2_heatPart_5 : decode cX2_heatPart 5 = .ok (.aload_n 0, 1) := by decide +kernel
theorem dX2_heatPart_6 : decode cX2_heatPart 6 = .ok (.getfield 9, 3) := by decide +kernel
theorem dX2_heatPart_9 : decode cX2_heatPart 9 = .ok (.arraylength, 1) := by decide +kernel
theorem dX2_heatPart_10 : decode cX2_heatPart 10 = .ok (.if_icmp .ge 81, 3) := by decide +kernel
theorem dX2_heatPart_13 : decode cX2_heatPart 13 = .ok (.iload_n 1, 1) := by decide +kernel
theorem dX2_heatPart_14 : decode cX2_heatPart 14 = .ok (.iload_n 3, 1) := by decide +kernel
theorem dX2_heatPart_15 : decode cX2_heatPart 15 = .ok (.invokestatic 124, 3) := by decide +kernel
theorem dX2_heatPart_18 : decode cX2_heatPart 18 = .ok (.iconst 1, 1) := by decide +kernel
theorem dX2_heatPart_19 : decode cX2_heatPart 19 = .ok (.if_icmp .ne 66, 3) := by decide +kernel
theorem dX2_heatPart_22 : decode cX2_heatPart 22 = .ok (.aload_n 0, 1) := by decide +kernel
theorem dX2_heatPart_23 : decode cX2_heatPart 23 = .ok (.getfield 9, 3) := by decide +kernel
theorem dX2_heatPart_26 : decode cX2_heatPart 26 = .ok (.iload_n 3, 1) := by decide +kernel
theorem dX2_heatPart_27 : decode cX2_heatPart 27 = .ok (.dup2, 1) := by decide +kernel
theorem dX2_heatPart_28 : decode cX2_heatPart 28 = .ok (.iaload, 1) := by decide +kernel
theorem dX2_heatPart_29 : decode cX2_heatPart 29 = .ok (.aload_n 0, 1) := by decide +kernel
theorem dX2_heatPart_30 : decode cX2_heatPart 30 = .ok (.getfield 15, 3) := by decide +kernel
theorem dX2_heatPart_33 : decode cX2_heatPart 33 = .ok (.iload_n 3, 1) := by decide +kernel
theorem dX2_heatPart_34 : decode cX2_heatPart 34 = .ok (.invokestatic 59, 3) := by decide +kernel
theorem dX2_heatPart_37 : decode cX2_heatPart 37 = .ok (.iadd, 1) := by decide +kernel
theorem dX2_heatPart_38 : decode cX2_heatPart 38 = .ok (.iastore, 1) := by decide +kernel
theorem dX2_heatPart_39 : decode cX2_heatPart 39 = .ok (.aload_n 0, 1) := by decide +kernel
theorem dX2_heatPart_40 : decode cX2_heatPart 40 = .ok (.getfield 38, 3) := by decide +kernel
theorem dX2_heatPart_43 : decode cX2_heatPart 43 = .ok (.aload_n 0, 1) := by decide +kernel
theorem dX2_heatPart_44 : decode cX2_heatPart 44 = .ok (.getfield 38, 3) := by decide +kernel
theorem dX2_heatPart_47 : decode cX2_heatPart 47 = .ok (.getfield 130, 3) := by decide +kernel
theorem dX2_heatPart_50 : decode cX2_heatPart 50 = .ok (.aload_n 0, 1) := by decide +kernel
theorem dX2_heatPart_51 : decode cX2_heatPart 51 = .ok (.getfield 9, 3) := by decide +kernel
theorem dX2_heatPart_54 : decode cX2_heatPart 54 = .ok (.iload_n 3, 1) := by decide +kernel
theorem dX2_heatPart_55 : decode cX2_heatPart 55 = .ok (.iaload, 1) := by decide +kernel
theorem dX2_heatPart_56 : decode cX2_heatPart 56 = .ok (.invokestatic 114, 3) := by decide +kernel
theorem dX2_heatPart_59 : decode cX2_heatPart 59 = .ok (.putfield 130, 3) := by decide +kernel
theorem dX2_heatPart_62 : decode cX2_heatPart 62 = .ok (.iload_n 2, 1) := by decide +kernel
theorem dX2_heatPart_63 : decode cX2_heatPart 63 = .ok (.aload_n 0, 1) := by decide +kernel
theorem dX2_heatPart_64 : decode cX2_heatPart 64 = .ok (.aload_n 0, 1) := by decide +kernel
theorem dX2_heatPart_65 : decode cX2_heatPart 65 = .ok (.getfield 9, 3) := by decide +kernel
theorem dX2_heatPart_68 : decode cX2_heatPart 68 = .ok (.iload_n 3, 1) := by decide +kernel
theorem dX2_heatPart_69 : decode cX2_heatPart 69 = .ok (.iaload, 1) := by decide +kernel
theorem dX2_heatPart_70 : decode cX2_heatPart 70 = .ok (.invokevirtual 133, 3) := by decide +kernel
theorem dX2_heatPart_73 : decode cX2_heatPart 73 = .ok (.ifCond .eq 9, 3) := by decide +kernel
theorem dX2_heatPart_76 : decode cX2_heatPart 76 = .ok (.iconst 1, 1) := by decide +kernel
theorem dX2_heatPart_77 : decode cX2_heatPart 77 = .ok (.iload_n 3, 1) := by decide +kernel
theorem dX2_heatPart_78 : decode cX2_heatPart 78 = .ok (.ishl, 1) := by decide +kernel
theorem dX2_heatPart_79 : decode cX2_heatPart 79 = .ok (.goto 4, 3) := by decide +kernel
theorem dX2_heatPart_82 : decode cX2_heatPart 82 = .ok (.iconst 0, 1) := by decide +kernel
theorem dX2_heatPart_83 : decode cX2_heatPart 83 = .ok (.ior, 1) := by decide +kernel
theorem dX2_heatPart_84 : decode cX2_heatPart 84 = .ok (.istore_n 2, 1) := by decide +kernel
theorem dX2_heatPart_85 : decode cX2_heatPart 85 = .ok (.iinc 3 1, 3) := by decide +kernel
theorem dX2_heatPart_88 : decode cX2_heatPart 88 = .ok (.goto (-84), 3) := by decide +kernel
theorem dX2_heatPart_91 : decode cX2_heatPart 91 = .ok (.iload_n 2, 1) := by decide +kernel
theorem dX2_heatPart_92 : decode cX2_heatPart 92 = .ok (.ireturn, 1) := by decide +kernel
set_option maxHeartbeats 1000000 in
set_option maxRecDepth 100000 in
theorem c_X2_heatPart (l : Launch) (G : GT) (q : Nat → Nat) (v : SV) (x1 : Int32) (hq : stD G q) : Met l yX2_heatPart (Cond.code yX2_heatPart cX2_heatPart 4 (some .int) :: bigW) ({ frames := 2, cells := 0, slots := 0, locals := 42 }) (BP G [.ref (q 0), .int x1] (fun U H => PW G (stW G q v) H)) (QE (some (.int (fX2_heatPart v x1).2)) (fun H => PW G (stW G q (fX2_heatPart v x1).1) H) (stA q)) 0 0 (stA q) := by
  refine met_of (by decide) (Nat.le_of_ble_eq_true rfl) ?_
  intro p e s m below meth c ls hC hKN hB0 hl
  have hP := hB0
  have hl : lv_has ls 4 [(0, .ref (q 0)), (1, .int x1)] := hl
  have hS : va_S (stA q) s.heap s.heap [] := va_S.rf
  have hAL : ∀ a, (stA q) a → gL G ≤ a := stD_low hq
  have hg : fX2_heatPart v x1 = fX2_heatPart v x1 := rfl
  refine lv_iconst (v := 0) hC.1 hC.2.1 dX2_heatPart_0 (by decide) ?_
  refine lv_istore_n (lv' := [(2, .int 0), (0, .ref (q 0)), (1, .int x1)]) hC.1 hC.2.1 dX2_heatPart_1 rfl hl (by decide) rfl (fun ls hl => ?_)
  refine lv_iconst (v := 0) hC.1 hC.2.1 dX2_heatPart_2 (by decide) ?_
  refine lv_istore_n (lv' := [(3, .int 0), (2, .int 0), (0, .ref (q 0)), (1, .int x1)]) hC.1 hC.2.1 dX2_heatPart_3 rfl hl (by decide) rfl (fun ls hl => ?_)
  have A4 : ∀ (y2_4 : Int32) (v_4 : SV), fX2_heatPart v x1 = (tX2_heatPart_4 v x1 (y2_4, v_4)) → ∀ (H : Heap) (locs : List Loc), PW G (stW G q v_4) H → va_S (stA q) s.heap H locs → ∀ (ls : Array Slot), lv_has ls 4 [(2, .int y2_4)] → W p l e ({ frames := 2, cells := 0, slots := 0, locals := 42 }) s m ([.ref (q 0), .int x1] : List Value).toArray below meth c H locs 0 0 (MQ below (QE (some (.int (fX2_heatPart v x1).2)) (fun H => PW G (stW G q (fX2_heatPart v x1).1) H) (stA q)) ([.ref (q 0), .int x1] : List Value).toArray s 0 0 (stA q)) (F0 m 91 ls []) := by
    intro  y2_4 v_4 hg H locs hP hS ls hl
    refine lv_iload_n hC.1 hC.2.1 dX2_heatPart_91 rfl (lv_at hl 0 rfl) ?_
    have e_1 : tX2_heatPart_4 v x1 (y2_4, v_4) = (v_4, y2_4) := by exact rfl
    have hg : fX2_heatPart v x1 = (v_4, y2_4) := hg.trans (congrArg (fun z => z) e_1)
    exact eE_i hC (by rw [hg]) (by show PW G (stW G q (fX2_heatPart v x1).1) H; rw [hg]; exact hP) hS dX2_heatPart_92
  have L4 : ∀ (n4 d4 : Nat), ∀ (y2_4 : Int32) (v_4 : SV), d4 + n4 = 24 → fX2_heatPart v x1 = (tX2_heatPart_4 v x1 (lpF n4 d4 (bX2_heatPart_4 v x1) (y2_4, v_4))) → ∀ (H : Heap) (locs : List Loc), PW G (stW G q v_4) H → va_S (stA q) s.heap H locs → ∀ (ls : Array Slot), lv_has ls 4 [(0, .ref (q 0)), (1, .int x1), (2, .int y2_4), (3, .int (nI d4))] → W p l e ({ frames := 2, cells := 0, slots := 0, locals := 42 }) s m ([.ref (q 0), .int x1] : List Value).toArray below meth c H locs 0 0 (MQ below (QE (some (.int (fX2_heatPart v x1).2)) (fun H => PW G (stW G q (fX2_heatPart v x1).1) H) (stA q)) ([.ref (q 0), .int x1] : List Value).toArray s 0 0 (stA q)) (F0 m 4 ls []) := by
    intro n4
    induction n4 with
    | zero =>
      intro d4 y2_4 v_4 hd hg H locs hP hS ls hl
      refine lv_iload_n hC.1 hC.2.1 dX2_heatPart_4 rfl (lv_at hl 3 rfl) ?_
      refine lv_aload_n hC.1 hC.2.1 dX2_heatPart_5 rfl (lv_at hl 0 rfl) ?_
      refine gf (v := .ref (q 1)) hC fwX2 (hKN.go hAL hS) hP 0 rfl rfl 0 (by decide) rfl wd_108 rfl dX2_heatPart_6 ?_
      refine alen_n hC (hKN.go hAL hS) hP 1 rfl dX2_heatPart_9 ?_
      refine lv_icmp_ge (tgt := 91) hC.1 hC.2.1 dX2_heatPart_10 (by decide) (fun k10 => ?_) (fun k10 => ?_)
      · exact A4  y2_4 v_4 hg _ _ hP hS _ (lv_sub hl [2] rfl)
      · exact absurd (nI_le (a := 24) (b := d4) (by omega) (by omega)) k10
    | succ n4 ih =>
      intro d4 y2_4 v_4 hd hg H locs hP hS ls hl
      have hg : fX2_heatPart v x1 = (tX2_heatPart_4 v x1 (lpF n4 (d4 + 1) (bX2_heatPart_4 v x1) (bX2_heatPart_4 v x1 d4 (y2_4, v_4)))) := hg
      refine lv_iload_n hC.1 hC.2.1 dX2_heatPart_4 rfl (lv_at hl 3 rfl) ?_
      refine lv_aload_n hC.1 hC.2.1 dX2_heatPart_5 rfl (lv_at hl 0 rfl) ?_
      refine gf (v := .ref (q 1)) hC fwX2 (hKN.go hAL hS) hP 0 rfl rfl 0 (by decide) rfl wd_108 rfl dX2_heatPart_6 ?_
      refine alen_n hC (hKN.go hAL hS) hP 1 rfl dX2_heatPart_9 ?_
      refine lv_icmp_ge (tgt := 91) hC.1 hC.2.1 dX2_heatPart_10 (by decide) (fun k10 => ?_) (fun k10 => ?_)
      · exact absurd k10 (nI_ge (a := d4) (b := 24) (by omega) (by omega))
      · refine lv_iload_n hC.1 hC.2.1 dX2_heatPart_13 rfl (lv_at hl 1 rfl) ?_
        refine lv_iload_n hC.1 hC.2.1 dX2_heatPart_14 rfl (lv_at hl 3 rfl) ?_
        refine runP (rSN (B := fun U H => True) (As := [.int x1, .int (nI d4)]) (rest := []) hC mwX5_bitOf (c_X5_bitOf l G x1 (nI d4)) wd_331 (nm_2 (hKN.go hAL hS)) ⟨rfl, rfl⟩ ⟨Nat.le_of_ble_eq_true rfl, Nat.le_of_ble_eq_true rfl⟩ (fun _ _ _ _ h => h) (hKN.go hAL hS) trivial rfl hl.1 rfl (Nat.le_of_ble_eq_true rfl) dX2_heatPart_15 ⟨Nat.zero_le _, Nat.zero_le _⟩) ?_
        refine lv_iconst (v := 1) hC.1 hC.2.1 dX2_heatPart_18 (by decide) ?_
        refine lv_icmp_ne (tgt := 85) hC.1 hC.2.1 dX2_heatPart_19 (by decide) (fun k19 => ?_) (fun k19 => ?_)
        · refine lv_iinc (v := nI (d4 + 1)) (lv' := [(3, .int (nI (d4 + 1))), (0, .ref (q 0)), (1, .int x1), (2, .int y2_4)]) hC.1 hC.2.1 dX2_heatPart_85 hl (k := 3) rfl (nI_1 _) (by decide) rfl (fun ls hl => ?_)
          refine lv_goto (tgt := 4) hC.1 hC.2.1 dX2_heatPart_88 (by decide) ?_
          have e_2 : bX2_heatPart_4 v x1 d4 (y2_4, v_4) = (y2_4, v_4) := by exact Eq.trans (if_neg k19) rfl
          have hg : fX2_heatPart v x1 = (tX2_heatPart_4 v x1 (lpF n4 (d4 + 1) (bX2_heatPart_4 v x1) (y2_4, v_4))) := hg.trans (congrArg (fun z => (tX2_heatPart_4 v x1 (lpF n4 (d4 + 1) (bX2_heatPart_4 v x1) z))) e_2)
          exact ih (d4 + 1) y2_4 v_4 (by omega) hg _ _ hP hS _ (lv_sub hl [1, 2, 3, 0] rfl)
        · refine lv_aload_n hC.1 hC.2.1 dX2_heatPart_22 rfl (lv_at hl 0 rfl) ?_
          refine gf (v := .ref (q 1)) hC fwX2 (hKN.go hAL hS) hP 0 rfl rfl 0 (by decide) rfl wd_108 rfl dX2_heatPart_23 ?_
          refine lv_iload_n hC.1 hC.2.1 dX2_heatPart_26 rfl (lv_at hl 3 rfl) ?_
          refine lv_dup2_11 hC.1 hC.2.1 dX2_heatPart_27 rfl rfl ?_
          refine iald_k hC (hKN.go hAL hS) hP 1 rfl (n := 24) (f := (v_4 0)) d4 (rfl) (by omega) (by first | decide | omega) dX2_heatPart_28 ?_
          refine lv_aload_n hC.1 hC.2.1 dX2_heatPart_29 rfl (lv_at hl 0 rfl) ?_
          refine gf (v := .ref (q 2)) hC fwX2 (hKN.go hAL hS) hP 0 rfl rfl 1 (by decide) rfl wd_109 rfl dX2_heatPart_30 ?_
          refine lv_iload_n hC.1 hC.2.1 dX2_heatPart_33 rfl (lv_at hl 3 rfl) ?_
          refine runP (rSN (B := fun U H => RD (q 2) 24 (v_4 1) U H) (As := [.ref (q 2), .int (nI d4)]) (rest := [.int ((v_4 0) d4), .int (nI d4), .ref (q 1)]) hC mwX5_at (c_X5_at l G (q 2) 24 (v_4 1) (nI d4)) wd_328 (nm_1 (hKN.go hAL hS)) ⟨rfl, rfl⟩ ⟨Nat.le_of_ble_eq_true rfl, Nat.le_of_ble_eq_true rfl⟩ (stb_RD _ _ _) (hKN.go hAL hS) (RD.ofP (hKN.go hAL hS) hP 2 rfl) rfl hl.1 rfl (Nat.le_of_ble_eq_true rfl) dX2_heatPart_34 ⟨Nat.zero_le _, Nat.zero_le _⟩) ?_
          refine lv_iadd hC.1 hC.2.1 dX2_heatPart_37 ?_
          refine lv_topi (fun w_3 ew_3 => ?_)
          refine iast_k hC (hKN.go hAL hS) hP (stD_D hq v_4) hS 1 rfl (n := 24) (f := (v_4 0)) d4 (rfl) (by omega) (by first | decide | omega) dX2_heatPart_38 (fun H locs hq_4 hS => ?_)
          have hP : PW G (stW G q (mkS (upd (v_4 0) d4 w_3) (v_4 1) (v_4 2) (v_4 3) (v_4 4) (v_4 5) (v_4 6) (v_4 7) (v_4 8 0) (v_4 8 1) (v_4 8 2) (v_4 8 3) (v_4 8 4) (v_4 8 5) (v_4 8 6) (v_4 8 7) (v_4 8 8) (v_4 8 9) (v_4 8 10))) H := hq_4
          refine lv_aload_n hC.1 hC.2.1 dX2_heatPart_39 rfl (lv_at hl 0 rfl) ?_
          refine gf (v := .ref (q 8)) hC fwX2 (hKN.go hAL hS) hP 0 rfl rfl 4 (by decide) rfl wd_113 rfl dX2_heatPart_40 ?_
          refine lv_aload_n hC.1 hC.2.1 dX2_heatPart_43 rfl (lv_at hl 0 rfl) ?_
          refine gf (v := .ref (q 8)) hC fwX2 (hKN.go hAL hS) hP 0 rfl rfl 4 (by decide) rfl wd_113 rfl dX2_heatPart_44 ?_
          refine gfN (v := .int (v_4 8 7)) hC fwX4 (hKN.go hAL hS) hP 8 rfl rfl 8 (by decide) rfl (nf_13 (hKN.go hAL hS)) rfl dX2_heatPart_47 ?_
          refine lv_aload_n hC.1 hC.2.1 dX2_heatPart_50 rfl (lv_at hl 0 rfl) ?_
          refine gf (v := .ref (q 1)) hC fwX2 (hKN.go hAL hS) hP 0 rfl rfl 0 (by decide) rfl wd_108 rfl dX2_heatPart_51 ?_
          refine lv_iload_n hC.1 hC.2.1 dX2_heatPart_54 rfl (lv_at hl 3 rfl) ?_
          refine iald_k hC (hKN.go hAL hS) hP 1 rfl (n := 24) (f := (upd (v_4 0) d4 w_3)) d4 (rfl) (by omega) (by first | decide | omega) dX2_heatPart_55 ?_
          refine va_mmax hC.1 hC.2.1 (hC.2.2.2.1.trans hl.1.symm) hC.2.2.2.2.1 (hC.2.2.2.2.2.2.1 _ wd_343) (hC.2.2.2.2.2.2.1 _ wd_344) (hC.2.2.2.2.2.2.1 _ wd_3) (hC.2.2.2.2.2.2.1 _ wd_345) (Nat.le_of_ble_eq_true rfl) (Nat.le_of_ble_eq_true rfl) (Nat.zero_le _) (Nat.zero_le _) dX2_heatPart_56 ?_
          refine lv_topi (fun w_5 ew_5 => ?_)
          refine pfN (v := .int w_5) (tv := .int) hC fwX4 (hKN.go hAL hS) hP (stD_D hq (mkS (upd (v_4 0) d4 w_3) (v_4 1) (v_4 2) (v_4 3) (v_4 4) (v_4 5) (v_4 6) (v_4 7) (v_4 8 0) (v_4 8 1) (v_4 8 2) (v_4 8 3) (v_4 8 4) (v_4 8 5) (v_4 8 6) (v_4 8 7) (v_4 8 8) (v_4 8 9) (v_4 8 10))) hS 8 rfl rfl 8 (by decide) rfl (nf_13 (hKN.go hAL hS)) rfl rfl rfl (Nat.le_of_ble_eq_true rfl) dX2_heatPart_59 (fun H locs hq_6 hS => ?_)
          have hP : PW G (stW G q (mkS (upd (v_4 0) d4 w_3) (v_4 1) (v_4 2) (v_4 3) (v_4 4) (v_4 5) (v_4 6) (v_4 7) (v_4 8 0) (v_4 8 1) (v_4 8 2) (v_4 8 3) (v_4 8 4) (v_4 8 5) (v_4 8 6) w_5 (v_4 8 8) (v_4 8 9) (v_4 8 10))) H := hq_6
          refine lv_iload_n hC.1 hC.2.1 dX2_heatPart_62 rfl (lv_at hl 2 rfl) ?_
          refine lv_aload_n hC.1 hC.2.1 dX2_heatPart_63 rfl (lv_at hl 0 rfl) ?_
          refine lv_aload_n hC.1 hC.2.1 dX2_heatPart_64 rfl (lv_at hl 0 rfl) ?_
          refine gf (v := .ref (q 1)) hC fwX2 (hKN.go hAL hS) hP 0 rfl rfl 0 (by decide) rfl wd_108 rfl dX2_heatPart_65 ?_
          refine lv_iload_n hC.1 hC.2.1 dX2_heatPart_68 rfl (lv_at hl 3 rfl) ?_
          refine iald_k hC (hKN.go hAL hS) hP 1 rfl (n := 24) (f := (upd (v_4 0) d4 w_3)) d4 (rfl) (by omega) (by first | decide | omega) dX2_heatPart_69 ?_
          refine runP (rV (B := fun U H => PW G (stW G q (mkS (upd (v_4 0) d4 w_3) (v_4 1) (v_4 2) (v_4 3) (v_4 4) (v_4 5) (v_4 6) (v_4 7) (v_4 8 0) (v_4 8 1) (v_4 8 2) (v_4 8 3) (v_4 8 4) (v_4 8 5) (v_4 8 6) w_5 (v_4 8 8) (v_4 8 9) (v_4 8 10))) H) (As := [.int ((upd (v_4 0) d4 w_3) d4)]) (rest := [.int y2_4]) hC mwX2_isDark (c_X2_isDark l G q (mkS (upd (v_4 0) d4 w_3) (v_4 1) (v_4 2) (v_4 3) (v_4 4) (v_4 5) (v_4 6) (v_4 7) (v_4 8 0) (v_4 8 1) (v_4 8 2) (v_4 8 3) (v_4 8 4) (v_4 8 5) (v_4 8 6) w_5 (v_4 8 8) (v_4 8 9) (v_4 8 10)) ((upd (v_4 0) d4 w_3) d4)) iwX2_isDark wd_517 ⟨rfl, rfl⟩ ⟨Nat.le_of_ble_eq_true rfl, Nat.le_of_ble_eq_true rfl⟩ (stb_h (fun H => PW G (stW G q (mkS (upd (v_4 0) d4 w_3) (v_4 1) (v_4 2) (v_4 3) (v_4 4) (v_4 5) (v_4 6) (v_4 7) (v_4 8 0) (v_4 8 1) (v_4 8 2) (v_4 8 3) (v_4 8 4) (v_4 8 5) (v_4 8 6) w_5 (v_4 8 8) (v_4 8 9) (v_4 8 10))) H)) (hKN.go hAL hS) hP (va_recv (hKN.go hAL hS).k hP (ci := 2) (q0 := 0) rfl rfl) rfl hl.1 rfl (Nat.le_of_ble_eq_true rfl) dX2_heatPart_70 ⟨Nat.zero_le _, Nat.zero_le _⟩) ?_
          refine lv_if_eq (tgt := 82) hC.1 hC.2.1 dX2_heatPart_73 (by decide) (fun k73 => ?_) (fun k73 => ?_)
          · refine lv_iconst (v := 0) hC.1 hC.2.1 dX2_heatPart_82 (by decide) ?_
            refine lv_ior hC.1 hC.2.1 dX2_heatPart_83 ?_
            refine lv_istore_n (lv' := [(2, .int (y2_4 ||| 0)), (0, .ref (q 0)), (1, .int x1), (3, .int (nI d4))]) hC.1 hC.2.1 dX2_heatPart_84 rfl hl (by decide) rfl (fun ls hl => ?_)
            refine lv_iinc (v := nI (d4 + 1)) (lv' := [(3, .int (nI (d4 + 1))), (2, .int (y2_4 ||| 0)), (0, .ref (q 0)), (1, .int x1)]) hC.1 hC.2.1 dX2_heatPart_85 hl (k := 3) rfl (nI_1 _) (by decide) rfl (fun ls hl => ?_)
            refine lv_goto (tgt := 4) hC.1 hC.2.1 dX2_heatPart_88 (by decide) ?_
            have e_7 : bX2_heatPart_4 v x1 d4 (y2_4, v_4) = (y2_4 ||| 0, mkS (upd (v_4 0) d4 w_3) (v_4 1) (v_4 2) (v_4 3) (v_4 4) (v_4 5) (v_4 6) (v_4 7) (v_4 8 0) (v_4 8 1) (v_4 8 2) (v_4 8 3) (v_4 8 4) (v_4 8 5) (v_4 8 6) w_5 (v_4 8 8) (v_4 8 9) (v_4 8 10)) := by subst ew_5; subst ew_3; exact Eq.trans (if_pos k19) (Eq.trans (if_pos k73) rfl)
            have hg : fX2_heatPart v x1 = (tX2_heatPart_4 v x1 (lpF n4 (d4 + 1) (bX2_heatPart_4 v x1) (y2_4 ||| 0, mkS (upd (v_4 0) d4 w_3) (v_4 1) (v_4 2) (v_4 3) (v_4 4) (v_4 5) (v_4 6) (v_4 7) (v_4 8 0) (v_4 8 1) (v_4 8 2) (v_4 8 3) (v_4 8 4) (v_4 8 5) (v_4 8 6) w_5 (v_4 8 8) (v_4 8 9) (v_4 8 10)))) := hg.trans (congrArg (fun z => (tX2_heatPart_4 v x1 (lpF n4 (d4 + 1) (bX2_heatPart_4 v x1) z))) e_7)
            exact ih (d4 + 1) (y2_4 ||| 0) (mkS (upd (v_4 0) d4 w_3) (v_4 1) (v_4 2) (v_4 3) (v_4 4) (v_4 5) (v_4 6) (v_4 7) (v_4 8 0) (v_4 8 1) (v_4 8 2) (v_4 8 3) (v_4 8 4) (v_4 8 5) (v_4 8 6) w_5 (v_4 8 8) (v_4 8 9) (v_4 8 10)) (by omega) hg _ _ hP hS _ (lv_sub hl [2, 3, 1, 0] rfl)
          · refine lv_iconst (v := 1) hC.1 hC.2.1 dX2_heatPart_76 (by decide) ?_
            refine lv_iload_n hC.1 hC.2.1 dX2_heatPart_77 rfl (lv_at hl 3 rfl) ?_
            refine lv_ishl hC.1 hC.2.1 dX2_heatPart_78 ?_
            refine lv_goto (tgt := 83) hC.1 hC.2.1 dX2_heatPart_79 (by decide) ?_
            refine lv_ior hC.1 hC.2.1 dX2_heatPart_83 ?_
            refine lv_istore_n (lv' := [(2, .int (y2_4 ||| (1 <<< ((nI d4) &&& 31)))), (0, .ref (q 0)), (1, .int x1), (3, .int (nI d4))]) hC.1 hC.2.1 dX2_heatPart_84 rfl hl (by decide) rfl (fun ls hl => ?_)
            refine lv_iinc (v := nI (d4 + 1)) (lv' := [(3, .int (nI (d4 + 1))), (2, .int (y2_4 ||| (1 <<< ((nI d4) &&& 31)))), (0, .ref (q 0)), (1, .int x1)]) hC.1 hC.2.1 dX2_heatPart_85 hl (k := 3) rfl (nI_1 _) (by decide) rfl (fun ls hl => ?_)
            refine lv_goto (tgt := 4) hC.1 hC.2.1 dX2_heatPart_88 (by decide) ?_
            have e_8 : bX2_heatPart_4 v x1 d4 (y2_4, v_4) = (y2_4 ||| (1 <<< ((nI d4) &&& 31)), mkS (upd (v_4 0) d4 w_3) (v_4 1) (v_4 2) (v_4 3) (v_4 4) (v_4 5) (v_4 6) (v_4 7) (v_4 8 0) (v_4 8 1) (v_4 8 2) (v_4 8 3) (v_4 8 4) (v_4 8 5) (v_4 8 6) w_5 (v_4 8 8) (v_4 8 9) (v_4 8 10)) := by subst ew_5; subst ew_3; exact Eq.trans (if_pos k19) (Eq.trans (if_neg k73) rfl)
            have hg : fX2_heatPart v x1 = (tX2_heatPart_4 v x1 (lpF n4 (d4 + 1) (bX2_heatPart_4 v x1) (y2_4 ||| (1 <<< ((nI d4) &&& 31)), mkS (upd (v_4 0) d4 w_3) (v_4 1) (v_4 2) (v_4 3) (v_4 4) (v_4 5) (v_4 6) (v_4 7) (v_4 8 0) (v_4 8 1) (v_4 8 2) (v_4 8 3) (v_4 8 4) (v_4 8 5) (v_4 8 6) w_5 (v_4 8 8) (v_4 8 9) (v_4 8 10)))) := hg.trans (congrArg (fun z => (tX2_heatPart_4 v x1 (lpF n4 (d4 + 1) (bX2_heatPart_4 v x1) z))) e_8)
            exact ih (d4 + 1) (y2_4 ||| (1 <<< ((nI d4) &&& 31))) (mkS (upd (v_4 0) d4 w_3) (v_4 1) (v_4 2) (v_4 3) (v_4 4) (v_4 5) (v_4 6) (v_4 7) (v_4 8 0) (v_4 8 1) (v_4 8 2) (v_4 8 3) (v_4 8 4) (v_4 8 5) (v_4 8 6) w_5 (v_4 8 8) (v_4 8 9) (v_4 8 10)) (by omega) hg _ _ hP hS _ (lv_sub hl [2, 3, 1, 0] rfl)
  have e_9 : fX2_heatPart v x1 = tX2_heatPart_4 v x1 (lpF 24 0 (bX2_heatPart_4 v x1) (0, v)) := by exact rfl
  have hg : fX2_heatPart v x1 = (tX2_heatPart_4 v x1 (lpF 24 0 (bX2_heatPart_4 v x1) (0, v))) := hg.trans (congrArg (fun z => z) e_9)
  exact L4  24 0 0 v (by omega) hg _ _ hP hS _ (lv_sub hl [2, 3, 1, 0] rfl)

theorem dX2_passTime_0 : decode cX2_passTime 0 = .ok (.iconst 0, 1) := by decide +kernel
theorem dX2_passTime_1 : decode cX2_passTime 1 = .ok (.istore_n 2, 1) := by decide +kernel
theorem dX2_passTime_2 : decode cX2_passTime 2 = .ok (.iload_n 2, 1) := by decide +kernel
theorem dX2_passTime_3 : decode cX2_passTime 3 = .ok (.aload_n 0, 1) := by decide +kernel
theorem dX2_passTime_4 : decode cX2_passTime 4 = .ok (.getfield 9, 3) := by decide +kernel
theorem dX2_passTime_7 : decode cX2_passTime 7 = .ok (.arraylength, 1) := by decide +kernel
theorem dX2_passTime_8 : decode cX2_passTime 8 = .ok (.if_icmp .ge 26, 3) := by decide +kernel
theorem dX2_passTime_11 : decode cX2_passTime 11 = .ok (.aload_n 0, 1) := by decide +kernel
theorem dX2_passTime_12 : decode cX2_passTime 12 = .ok (.getfield 9, 3) := by decide +kernel
theorem dX2_passTime_15 : decode cX2_passTime 15 = .ok (.iload_n 2, 1) := by decide +kernel
theorem dX2_passTime_16 : decode cX2_passTime 16 = .ok (.aload_n 0, 1) := by decide +kernel
theorem dX2_passTime_17 : decode cX2_passTime 17 = .ok (.aload_n 0, 1) := by decide +kernel
theorem dX2_passTime_18 : decode cX2_passTime 18 = .ok (.getfield 9, 3) := by decide +kernel
theorem dX2_passTime_21 : decode cX2_passTime 21 = .ok (.iload_n 2, 1) := by decide +kernel
theorem dX2_passTime_22 : decode cX2_passTime 22 = .ok (.iaload, 1) := by decide +kernel
theorem dX2_passTime_23 : decode cX2_passTime 23 = .ok (.iload_n 1, 1) := by decide +kernel
theorem dX2_passTime_24 : decode cX2_passTime 24 = .ok (.invokevirtual 143, 3) := by decide +kernel
theorem dX2_passTime_27 : decode cX2_passTime 27 = .ok (.iastore, 1) := by decide +kernel
theorem dX2_passTime_28 : decode cX2_passTime 28 = .ok (.iinc 2 1, 3) := by decide +kernel
theorem dX2_passTime_31 : decode cX2_passTime 31 = .ok (.goto (-29), 3) := by decide +kernel
theorem dX2_passTime_34 : decode cX2_passTime 34 = .ok (.aload_n 0, 1) := by decide +kernel
theorem dX2_passTime_35 : decode cX2_passTime 35 = .ok (.getfield 38, 3) := by decide +kernel
theorem dX2_passTime_38 : decode cX2_passTime 38 = .ok (.dup, 1) := by decide +kernel
theorem dX2_passTime_39 : decode cX2_passTime 39 = .ok (.getfield 74, 3) := by decide +kernel
theorem dX2_passTime_42 : decode cX2_passTime 42 = .ok (.iload_n 1, 1) := by decide +kernel
theorem dX2_passTime_43 : decode cX2_passTime 43 = .ok (.iadd, 1) := by decide +kernel
theorem dX2_passTime_44 : decode cX2_passTime 44 = .ok (.putfield 74, 3) := by decide +kernel
theorem dX2_passTime_47 : decode cX2_passTime 47 = .ok (.return_, 1) := by decide +kernel
set_option maxHeartbeats 1000000 in
set_option maxRecDepth 100000 in
theorem c_X2_passTime (l : Launch) (G : GT) (q : Nat → Nat) (v : SV) (x1 : Int32) (hq : stD G q) : Met l yX2_passTime (Cond.code yX2_passTime cX2_passTime 3 none :: bigW) ({ frames := 2, cells := 0, slots := 0, locals := 47 }) (BP G [.ref (q 0), .int x1] (fun U H => PW G (stW G q v) H)) (QE (none) (fun H => PW G (stW G q (fX2_passTime v x1)) H) (stA q)) 0 0 (stA q) := by
  refine met_of (by decide) (Nat.le_of_ble_eq_true rfl) ?_
  intro p e s m below meth c ls hC hKN hB0 hl
  have hP := hB0
  have hl : lv_has ls 3 [(0, .ref (q 0)), (1, .int x1)] := hl
  have hS : va_S (stA q) s.heap s.heap [] := va_S.rf
  have hAL : ∀ a, (stA q) a → gL G ≤ a := stD_low hq
  have hg : fX2_passTime v x1 = fX2_passTime v x1 := rfl
  refine lv_iconst (v := 0) hC.1 hC.2.1 dX2_passTime_0 (by decide) ?_
  refine lv_istore_n (lv' := [(2, .int 0), (0, .ref (q 0)), (1, .int x1)]) hC.1 hC.2.1 dX2_passTime_1 rfl hl (by decide) rfl (fun ls hl => ?_)
  have A2 : ∀ (v_2 : SV), fX2_passTime v x1 = (tX2_passTime_2 v x1 v_2) → ∀ (H : Heap) (locs : List Loc), PW G (stW G q v_2) H → va_S (stA q) s.heap H locs → ∀ (ls : Array Slot), lv_has ls 3 [(0, .ref (q 0)), (1, .int x1)] → W p l e ({ frames := 2, cells := 0, slots := 0, locals := 47 }) s m ([.ref (q 0), .int x1] : List Value).toArray below meth c H locs 0 0 (MQ below (QE (none) (fun H => PW G (stW G q (fX2_passTime v x1)) H) (stA q)) ([.ref (q 0), .int x1] : List Value).toArray s 0 0 (stA q)) (F0 m 34 ls []) := by
    intro  v_2 hg H locs hP hS ls hl
    refine lv_aload_n hC.1 hC.2.1 dX2_passTime_34 rfl (lv_at hl 0 rfl) ?_
    refine gf (v := .ref (q 8)) hC fwX2 (hKN.go hAL hS) hP 0 rfl rfl 4 (by decide) rfl wd_113 rfl dX2_passTime_35 ?_
    refine lv_dup hC.1 hC.2.1 dX2_passTime_38 rfl ?_
    refine gfN (v := .int (v_2 8 1)) hC fwX4 (hKN.go hAL hS) hP 8 rfl rfl 2 (by decide) rfl (nf_5 (hKN.go hAL hS)) rfl dX2_passTime_39 ?_
    refine lv_iload_n hC.1 hC.2.1 dX2_passTime_42 rfl (lv_at hl 1 rfl) ?_
    refine lv_iadd hC.1 hC.2.1 dX2_passTime_43 ?_
    refine lv_topi (fun w_1 ew_1 => ?_)
    refine pfN (v := .int w_1) (tv := .int) hC fwX4 (hKN.go hAL hS) hP (stD_D hq v_2) hS 8 rfl rfl 2 (by decide) rfl (nf_5 (hKN.go hAL hS)) rfl rfl rfl (Nat.le_of_ble_eq_true rfl) dX2_passTime_44 (fun H locs hq_2 hS => ?_)
    have hP : PW G (stW G q (mkS (v_2 0) (v_2 1) (v_2 2) (v_2 3) (v_2 4) (v_2 5) (v_2 6) (v_2 7) (v_2 8 0) w_1 (v_2 8 2) (v_2 8 3) (v_2 8 4) (v_2 8 5) (v_2 8 6) (v_2 8 7) (v_2 8 8) (v_2 8 9) (v_2 8 10))) H := hq_2
    have e_3 : tX2_passTime_2 v x1 v_2 = mkS (v_2 0) (v_2 1) (v_2 2) (v_2 3) (v_2 4) (v_2 5) (v_2 6) (v_2 7) (v_2 8 0) w_1 (v_2 8 2) (v_2 8 3) (v_2 8 4) (v_2 8 5) (v_2 8 6) (v_2 8 7) (v_2 8 8) (v_2 8 9) (v_2 8 10) := by subst ew_1; exact rfl
    have hg : fX2_passTime v x1 = mkS (v_2 0) (v_2 1) (v_2 2) (v_2 3) (v_2 4) (v_2 5) (v_2 6) (v_2 7) (v_2 8 0) w_1 (v_2 8 2) (v_2 8 3) (v_2 8 4) (v_2 8 5) (v_2 8 6) (v_2 8 7) (v_2 8 8) (v_2 8 9) (v_2 8 10) := hg.trans (congrArg (fun z => z) e_3)
    exact eE_v hC (by show PW G (stW G q (fX2_passTime v x1)) H; rw [hg]; exact hP) hS dX2_passTime_47
  have L2 : ∀ (n2 d2 : Nat), ∀ (v_2 : SV), d2 + n2 = 24 → fX2_passTime v x1 = (tX2_passTime_2 v x1 (lpF n2 d2 (bX2_passTime_2 v x1) v_2)) → ∀ (H : Heap) (locs : List Loc), PW G (stW G q v_2) H → va_S (stA q) s.heap H locs → ∀ (ls : Array Slot), lv_has ls 3 [(0, .ref (q 0)), (1, .int x1), (2, .int (nI d2))] → W p l e ({ frames := 2, cells := 0, slots := 0, locals := 47 }) s m ([.ref (q 0), .int x1] : List Value).toArray below meth c H locs 0 0 (MQ below (QE (none) (fun H => PW G (stW G q (fX2_passTime v x1)) H) (stA q)) ([.ref (q 0), .int x1] : List Value).toArray s 0 0 (stA q)) (F0 m 2 ls []) := by
    intro n2
    induction n2 with
    | zero =>
      intro d2 v_2 hd hg H locs hP hS ls hl
      refine lv_iload_n hC.1 hC.2.1 dX2_passTime_2 rfl (lv_at hl 2 rfl) ?_
      refine lv_aload_n hC.1 hC.2.1 dX2_passTime_3 rfl (lv_at hl 0 rfl) ?_
      refine gf (v := .ref (q 1)) hC fwX2 (hKN.go hAL hS) hP 0 rfl rfl 0 (by decide) rfl wd_108 rfl dX2_passTime_4 ?_
      refine alen_n hC (hKN.go hAL hS) hP 1 rfl dX2_passTime_7 ?_
      refine lv_icmp_ge (tgt := 34) hC.1 hC.2.1 dX2_passTime_8 (by decide) (fun k8 => ?_) (fun k8 => ?_)
      · exact A2  v_2 hg _ _ hP hS _ (lv_sub hl [0, 1] rfl)
      · exact absurd (nI_le (a := 24) (b := d2) (by omega) (by omega)) k8
    | succ n2 ih =>
      intro d2 v_2 hd hg H locs hP hS ls hl
      have hg : fX2_passTime v x1 = (tX2_passTime_2 v x1 (lpF n2 (d2 + 1) (bX2_passTime_2 v x1) (bX2_passTime_2 v x1 d2 v_2))) := hg
      refine lv_iload_n hC.1 hC.2.1 dX2_passTime_2 rfl (lv_at hl 2 rfl) ?_
      refine lv_aload_n hC.1 hC.2.1 dX2_passTime_3 rfl (lv_at hl 0 rfl) ?_
      refine gf (v := .ref (q 1)) hC fwX2 (hKN.go hAL hS) hP 0 rfl rfl 0 (by decide) rfl wd_108 rfl dX2_passTime_4 ?_
      refine alen_n hC (hKN.go hAL hS) hP 1 rfl dX2_passTime_7 ?_
      refine lv_icmp_ge (tgt := 34) hC.1 hC.2.1 dX2_passTime_8 (by decide) (fun k8 => ?_) (fun k8 => ?_)
      · exact absurd k8 (nI_ge (a := d2) (b := 24) (by omega) (by omega))
      · refine lv_aload_n hC.1 hC.2.1 dX2_passTime_11 rfl (lv_at hl 0 rfl) ?_
        refine gf (v := .ref (q 1)) hC fwX2 (hKN.go hAL hS) hP 0 rfl rfl 0 (by decide) rfl wd_108 rfl dX2_passTime_12 ?_
        refine lv_iload_n hC.1 hC.2.1 dX2_passTime_15 rfl (lv_at hl 2 rfl) ?_
        refine lv_aload_n hC.1 hC.2.1 dX2_passTime_16 rfl (lv_at hl 0 rfl) ?_
        refine lv_aload_n hC.1 hC.2.1 dX2_passTime_17 rfl (lv_at hl 0 rfl) ?_
        refine gf (v := .ref (q 1)) hC fwX2 (hKN.go hAL hS) hP 0 rfl rfl 0 (by decide) rfl wd_108 rfl dX2_passTime_18 ?_
        refine lv_iload_n hC.1 hC.2.1 dX2_passTime_21 rfl (lv_at hl 2 rfl) ?_
        refine iald_k hC (hKN.go hAL hS) hP 1 rfl (n := 24) (f := (v_2 0)) d2 (rfl) (by omega) (by first | decide | omega) dX2_passTime_22 ?_
        refine lv_iload_n hC.1 hC.2.1 dX2_passTime_23 rfl (lv_at hl 1 rfl) ?_
        refine runP (rV (B := fun U H => PW G (stW G q v_2) H) (As := [.int ((v_2 0) d2), .int x1]) (rest := [.int (nI d2), .ref (q 1)]) hC mwX2_cooledFor (c_X2_cooledFor l G q v_2 ((v_2 0) d2) x1) iwX2_cooledFor wd_509 ⟨rfl, rfl⟩ ⟨Nat.le_of_ble_eq_true rfl, Nat.le_of_ble_eq_true rfl⟩ (stb_h (fun H => PW G (stW G q v_2) H)) (hKN.go hAL hS) hP (va_recv (hKN.go hAL hS).k hP (ci := 2) (q0 := 0) rfl rfl) rfl hl.1 rfl (Nat.le_of_ble_eq_true rfl) dX2_passTime_24 ⟨Nat.zero_le _, Nat.zero_le _⟩) ?_
        refine lv_topi (fun w_4 ew_4 => ?_)
        refine iast_k hC (hKN.go hAL hS) hP (stD_D hq v_2) hS 1 rfl (n := 24) (f := (v_2 0)) d2 (rfl) (by omega) (by first | decide | omega) dX2_passTime_27 (fun H locs hq_5 hS => ?_)
        have hP : PW G (stW G q (mkS (upd (v_2 0) d2 w_4) (v_2 1) (v_2 2) (v_2 3) (v_2 4) (v_2 5) (v_2 6) (v_2 7) (v_2 8 0) (v_2 8 1) (v_2 8 2) (v_2 8 3) (v_2 8 4) (v_2 8 5) (v_2 8 6) (v_2 8 7) (v_2 8 8) (v_2 8 9) (v_2 8 10))) H := hq_5
        refine lv_iinc (v := nI (d2 + 1)) (lv' := [(2, .int (nI (d2 + 1))), (0, .ref (q 0)), (1, .int x1)]) hC.1 hC.2.1 dX2_passTime_28 hl (k := 2) rfl (nI_1 _) (by decide) rfl (fun ls hl => ?_)
        refine lv_goto (tgt := 2) hC.1 hC.2.1 dX2_passTime_31 (by decide) ?_
        have e_6 : bX2_passTime_2 v x1 d2 v_2 = mkS (upd (v_2 0) d2 w_4) (v_2 1) (v_2 2) (v_2 3) (v_2 4) (v_2 5) (v_2 6) (v_2 7) (v_2 8 0) (v_2 8 1) (v_2 8 2) (v_2 8 3) (v_2 8 4) (v_2 8 5) (v_2 8 6) (v_2 8 7) (v_2 8 8) (v_2 8 9) (v_2 8 10) := by subst ew_4; exact rfl
        have hg : fX2_passTime v x1 = (tX2_passTime_2 v x1 (lpF n2 (d2 + 1) (bX2_passTime_2 v x1) (mkS (upd (v_2 0) d2 w_4) (v_2 1) (v_2 2) (v_2 3) (v_2 4) (v_2 5) (v_2 6) (v_2 7) (v_2 8 0) (v_2 8 1) (v_2 8 2) (v_2 8 3) (v_2 8 4) (v_2 8 5) (v_2 8 6) (v_2 8 7) (v_2 8 8) (v_2 8 9) (v_2 8 10)))) := hg.trans (congrArg (fun z => (tX2_passTime_2 v x1 (lpF n2 (d2 + 1) (bX2_passTime_2 v x1) z))) e_6)
        exact ih (d2 + 1) (mkS (upd (v_2 0) d2 w_4) (v_2 1) (v_2 2) (v_2 3) (v_2 4) (v_2 5) (v_2 6) (v_2 7) (v_2 8 0) (v_2 8 1) (v_2 8 2) (v_2 8 3) (v_2 8 4) (v_2 8 5) (v_2 8 6) (v_2 8 7) (v_2 8 8) (v_2 8 9) (v_2 8 10)) (by omega) hg _ _ hP hS _ (lv_sub hl [1, 2, 0] rfl)
  have e_7 : fX2_passTime v x1 = tX2_passTime_2 v x1 (lpF 24 0 (bX2_passTime_2 v x1) v) := by exact rfl
  have hg : fX2_passTime v x1 = (tX2_passTime_2 v x1 (lpF 24 0 (bX2_passTime_2 v x1) v)) := hg.trans (congrArg (fun z => z) e_7)
  exact L2  24 0 v (by omega) hg _ _ hP hS _ (lv_sub hl [1, 2, 0] rfl)

theorem dX2_changePaper_0 : decode cX2_changePaper 0 = .ok (.aload_n 0, 1) := by decide +kernel
theorem dX2_changePaper_1 : decode cX2_changePaper 1 = .ok (.iload_n 1, 1) := by decide +kernel
theorem dX2_changePaper_2 : decode cX2_changePaper 2 = .ok (.putfield 49, 3) := by decide +kernel
theorem dX2_changePaper_5 : decode cX2_changePaper 5 = .ok (.aload_n 0, 1) := by decide +kernel
theorem dX2_changePaper_6 : decode cX2_changePaper 6 = .ok (.getfield 31, 3) := by decide +kernel
theorem dX2_changePaper_9 : decode cX2_changePaper 9 = .ok (.iconst 0, 1) := by decide +kernel
theorem dX2_changePaper_10 : decode cX2_changePaper 10 = .ok (.putfield 67, 3) := by decide +kernel
theorem dX2_changePaper_13 : decode cX2_changePaper 13 = .ok (.return_, 1) := by decide +kernel
set_option maxHeartbeats 1000000 in
set_option maxRecDepth 100000 in
theorem c_X2_changePaper (l : Launch) (G : GT) (q : Nat → Nat) (v : SV) (x1 : Int32) (hq : stD G q) : Met l yX2_changePaper (Cond.code yX2_changePaper cX2_changePaper 2 none :: bigW) ({ frames := 0, cells := 0, slots := 0, locals := 0 }) (BP G [.ref (q 0), .int x1] (fun U H => PW G (stW G q v) H)) (QE (none) (fun H => PW G (stW G q (fX2_changePaper v x1)) H) (stA q)) 0 0 (stA q) := by
  refine met_of (by decide) (Nat.le_of_ble_eq_true rfl) ?_
  intro p e s m below meth c ls hC hKN hB0 hl
  have hP := hB0
  have hl : lv_has ls 2 [(0, .ref (q 0)), (1, .int x1)] := hl
  have hS : va_S (stA q) s.heap s.heap [] := va_S.rf
  have hAL : ∀ a, (stA q) a → gL G ≤ a := stD_low hq
  have hg : fX2_changePaper v x1 = fX2_changePaper v x1 := rfl
  refine lv_aload_n hC.1 hC.2.1 dX2_changePaper_0 rfl (lv_at hl 0 rfl) ?_
  refine lv_iload_n hC.1 hC.2.1 dX2_changePaper_1 rfl (lv_at hl 1 rfl) ?_
  refine pf (v := .int x1) (tv := .int) hC fwX2 hKN hP (stD_D hq v) hS 0 rfl rfl 7 (by decide) rfl wd_117 rfl rfl rfl (Nat.le_of_ble_eq_true rfl) dX2_changePaper_2 (fun H locs hq_1 hS => ?_)
  have hP : PW G (stW G q (mkS (v 0) (v 1) (v 2) (v 3) (v 4) (v 5) (v 6) (v 7) (v 8 0) (v 8 1) (v 8 2) (v 8 3) (v 8 4) (v 8 5) (v 8 6) (v 8 7) (v 8 8) (v 8 9) x1)) H := hq_1
  refine lv_aload_n hC.1 hC.2.1 dX2_changePaper_5 rfl (lv_at hl 0 rfl) ?_
  refine gf (v := .ref (q 4)) hC fwX2 (hKN.go hAL hS) hP 0 rfl rfl 3 (by decide) rfl wd_111 rfl dX2_changePaper_6 ?_
  refine lv_iconst (v := 0) hC.1 hC.2.1 dX2_changePaper_9 (by decide) ?_
  refine pfN (v := .int 0) (tv := .int) hC fwX3 (hKN.go hAL hS) hP (stD_D hq (mkS (v 0) (v 1) (v 2) (v 3) (v 4) (v 5) (v 6) (v 7) (v 8 0) (v 8 1) (v 8 2) (v 8 3) (v 8 4) (v 8 5) (v 8 6) (v 8 7) (v 8 8) (v 8 9) x1)) hS 4 rfl rfl 3 (by decide) rfl (nf_1 (hKN.go hAL hS)) rfl rfl rfl (Nat.le_of_ble_eq_true rfl) dX2_changePaper_10 (fun H locs hq_2 hS => ?_)
  have hP : PW G (stW G q (mkS (v 0) (v 1) (v 2) (v 3) (v 4) (v 5) (v 6) (v 7) 0 (v 8 1) (v 8 2) (v 8 3) (v 8 4) (v 8 5) (v 8 6) (v 8 7) (v 8 8) (v 8 9) x1)) H := hq_2
  have e_3 : fX2_changePaper v x1 = mkS (v 0) (v 1) (v 2) (v 3) (v 4) (v 5) (v 6) (v 7) 0 (v 8 1) (v 8 2) (v 8 3) (v 8 4) (v 8 5) (v 8 6) (v 8 7) (v 8 8) (v 8 9) x1 := by exact rfl
  have hg : fX2_changePaper v x1 = mkS (v 0) (v 1) (v 2) (v 3) (v 4) (v 5) (v 6) (v 7) 0 (v 8 1) (v 8 2) (v 8 3) (v 8 4) (v 8 5) (v 8 6) (v 8 7) (v 8 8) (v 8 9) x1 := hg.trans (congrArg (fun z => z) e_3)
  exact eE_v hC (by show PW G (stW G q (fX2_changePaper v x1)) H; rw [hg]; exact hP) hS dX2_changePaper_13

theorem dX2_changeSetting_0 : decode cX2_changeSetting 0 = .ok (.aload_n 0, 1) := by decide +kernel
theorem dX2_changeSetting_1 : decode cX2_changeSetting 1 = .ok (.getfield 21, 3) := by decide +kernel
theorem dX2_changeSetting_4 : decode cX2_changeSetting 4 = .ok (.iload_n 1, 1) := by decide +kernel
theorem dX2_changeSetting_5 : decode cX2_changeSetting 5 = .ok (.iload_n 2, 1) := by decide +kernel
theorem dX2_changeSetting_6 : decode cX2_changeSetting 6 = .ok (.invokestatic 63, 3) := by decide +kernel
theorem dX2_changeSetting_9 : decode cX2_changeSetting 9 = .ok (.return_, 1) := by decide +kernel
set_option maxHeartbeats 1000000 in
set_option maxRecDepth 100000 in
theorem c_X2_changeSetting (l : Launch) (G : GT) (q : Nat → Nat) (v : SV) (x1 : Int32) (x2 : Int32) (hq : stD G q) : Met l yX2_changeSetting (Cond.code yX2_changeSetting cX2_changeSetting 3 none :: bigW) ({ frames := 1, cells := 0, slots := 0, locals := 22 }) (BP G [.ref (q 0), .int x1, .int x2] (fun U H => PW G (stW G q v) H)) (QE (none) (fun H => PW G (stW G q (fX2_changeSetting v x1 x2)) H) (stA q)) 0 0 (stA q) := by
  refine met_of (by decide) (Nat.le_of_ble_eq_true rfl) ?_
  intro p e s m below meth c ls hC hKN hB0 hl
  have hP := hB0
  have hl : lv_has ls 3 [(0, .ref (q 0)), (1, .int x1), (2, .int x2)] := hl
  have hS : va_S (stA q) s.heap s.heap [] := va_S.rf
  have hAL : ∀ a, (stA q) a → gL G ≤ a := stD_low hq
  have hg : fX2_changeSetting v x1 x2 = fX2_changeSetting v x1 x2 := rfl
  refine lv_aload_n hC.1 hC.2.1 dX2_changeSetting_0 rfl (lv_at hl 0 rfl) ?_
  refine gf (v := .ref (q 3)) hC fwX2 hKN hP 0 rfl rfl 2 (by decide) rfl wd_110 rfl dX2_changeSetting_1 ?_
  refine lv_iload_n hC.1 hC.2.1 dX2_changeSetting_4 rfl (lv_at hl 1 rfl) ?_
  refine lv_iload_n hC.1 hC.2.1 dX2_changeSetting_5 rfl (lv_at hl 2 rfl) ?_
  refine runE (rSN (B := fun U H => PW G (a1W G (q 3) 7 (v 2)) H) (As := [.ref (q 3), .int x1, .int x2]) (rest := []) hC mwX5_put (c_X5_put l G (q 3) 7 (v 2) x1 x2 (stD_low hq _ ⟨3, by decide, rfl⟩)) wd_477 (nm_7 hKN) ⟨rfl, rfl⟩ ⟨Nat.le_of_ble_eq_true rfl, Nat.le_of_ble_eq_true rfl⟩ (stb_h (fun H => PW G (a1W G (q 3) 7 (v 2)) H)) hKN (one_of hP 3 rfl) rfl hl.1 rfl (Nat.le_of_ble_eq_true rfl) dX2_changeSetting_6 ⟨Nat.zero_le _, Nat.zero_le _⟩) hS (fun _ h => ⟨3, by decide, h⟩) (fun _ h => ⟨3, by decide, h⟩) (fun H locs hq_1 _ hk_3 hS => ?_)
  have hP : PW G (stW G q (mkS (v 0) (v 1) (fX5_put 7 (v 2) x1 x2) (v 3) (v 4) (v 5) (v 6) (v 7) (v 8 0) (v 8 1) (v 8 2) (v 8 3) (v 8 4) (v 8 5) (v 8 6) (v 8 7) (v 8 8) (v 8 9) (v 8 10))) H := one_set hP (stD_D hq v) 3 rfl hq_1 hk_3
  have e_4 : fX2_changeSetting v x1 x2 = mkS (v 0) (v 1) (fX5_put 7 (v 2) x1 x2) (v 3) (v 4) (v 5) (v 6) (v 7) (v 8 0) (v 8 1) (v 8 2) (v 8 3) (v 8 4) (v 8 5) (v 8 6) (v 8 7) (v 8 8) (v 8 9) (v 8 10) := by exact rfl
  have hg : fX2_changeSetting v x1 x2 = mkS (v 0) (v 1) (fX5_put 7 (v 2) x1 x2) (v 3) (v 4) (v 5) (v 6) (v 7) (v 8 0) (v 8 1) (v 8 2) (v 8 3) (v 8 4) (v 8 5) (v 8 6) (v 8 7) (v 8 8) (v 8 9) (v 8 10) := hg.trans (congrArg (fun z => z) e_4)
  exact eE_v hC (by show PW G (stW G q (fX2_changeSetting v x1 x2)) H; rw [hg]; exact hP) hS dX2_changeSetting_9
