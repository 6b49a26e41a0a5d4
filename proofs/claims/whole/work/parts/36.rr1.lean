def fX0_isFull (u : SV) : Int32 := if (u 1 0) < (nI 60) then (0) else (1)
def fX0_codeAt (u : SV) (x1 : Int32) : Int32 := fX5_at 60 (u 0) x1
def fX0_addCode (u : SV) (x1 : Int32) : SV := let w_4 : Int32 := (u 1 0) + 1; mkB (fX5_put 60 (u 0) (u 1 0) x1) w_4
def fX1_beginPart (r : Nat → Int32) : (Nat → Int32) := mkR 0 (r 1) (r 2) (r 3) 0 0 0 (r 7) 0 (r 9)
def fX1_isComplete (r : Nat → Int32) : Int32 := if (r 0) = 5 then (1) else (if (r 0) = 2 then (if (r 6) = 6 then (1) else (if (r 0) = 4 then (if (r 8) ≤ 0 then (0) else (1)) else (0))) else (if (r 0) = 4 then (if (r 8) ≤ 0 then (0) else (1)) else (0)))
def fX1_takeBetween (r : Nat → Int32) : (Nat → Int32) × Int32 := if (fX1_isComplete r) = 0 then ((r, 0)) else (let r_2 := fX1_beginPart r
  (r_2, 1))
def fX1_beginWord (r : Nat → Int32) (w1 : Nat) (x2 : Int32) : (Nat → Int32) × Int32 := (mkR 1 x2 (nI w1) 1 (r 4) (r 5) (r 6) (r 7) (r 8) (r 9), 1)
def fX1_beginKind (r : Nat → Int32) (x1 : Int32) (w2 : Nat) (x3 : Int32) : (Nat → Int32) × Int32 := let r_3 := fX1_beginWord (mkR (r 0) (r 1) (r 2) (r 3) x1 (r 5) (r 6) (r 7) (r 8) (r 9)) w2 x3
  (r_3.1, r_3.2)
def fX1_beginPaper (r : Nat → Int32) (x1 : Int32) (w2 : Nat) : (Nat → Int32) × Int32 := let r_3 := fX1_beginWord (mkR (r 0) (r 1) (r 2) (r 3) (r 4) (r 5) (r 6) x1 (r 8) (r 9)) w2 5
  (r_3.1, r_3.2)
def fX1_takeFirst (r : Nat → Int32) (x1 : Int32) : (Nat → Int32) × Int32 := if x1 = 101 then (let r_2 := fX1_beginKind r 4 4 5
  (r_2.1, r_2.2)) else if x1 = 108 then (let r_5 := fX1_beginKind r 1 1 2
  (r_5.1, r_5.2)) else if x1 = 112 then (let r_8 := fX1_beginKind r 2 2 3
  (r_8.1, r_8.2)) else if x1 = 114 then (let r_12 := fX1_beginKind (mkR (r 0) (r 1) (r 2) (r 3) (r 4) (r 5) (r 6) (r 7) (r 8) 999) 3 3 4
  (r_12.1, r_12.2)) else ((r, 0))
def fX1_takeFirstOfPaper (r : Nat → Int32) (x1 : Int32) : (Nat → Int32) × Int32 := if x1 = 102 then (let r_2 := fX1_beginPaper r 1 6
  (r_2.1, r_2.2)) else if x1 = 108 then (let r_5 := fX1_beginPaper r 2 7
  (r_5.1, r_5.2)) else if x1 = 112 then (let r_8 := fX1_beginPaper r 0 5
  (r_8.1, r_8.2)) else ((r, 0))
theorem Z_X1_beginWord (r : Nat → Int32) (w : Nat) (x : Int32) : (fX1_beginWord r w x).2 = 0 ∨ (fX1_beginWord r w x).2 = 1 := Or.inr rfl
theorem Z_X1_beginKind (r : Nat → Int32) (x1 : Int32) (w : Nat) (x3 : Int32) : (fX1_beginKind r x1 w x3).2 = 0 ∨ (fX1_beginKind r x1 w x3).2 = 1 := Or.inr rfl
theorem Z_X1_beginPaper (r : Nat → Int32) (x1 : Int32) (w : Nat) : (fX1_beginPaper r x1 w).2 = 0 ∨ (fX1_beginPaper r x1 w).2 = 1 := Or.inr rfl
theorem dX0_isFull_0 : decode cX0_isFull 0 = .ok (.aload_n 0, 1) := by decide +kernel
theorem dX0_isFull_1 : decode cX0_isFull 1 = .ok (.getfield 13, 3) := by decide +kernel
theorem dX0_isFull_4 : decode cX0_isFull 4 = .ok (.aload_n 0, 1) := by decide +kernel
theorem dX0_isFull_5 : decode cX0_isFull 5 = .ok (.getfield 9, 3) := by decide +kernel
theorem dX0_isFull_8 : decode cX0_isFull 8 = .ok (.arraylength, 1) := by decide +kernel
theorem dX0_isFull_9 : decode cX0_isFull 9 = .ok (.if_icmp .lt 7, 3) := by decide +kernel
theorem dX0_isFull_12 : decode cX0_isFull 12 = .ok (.iconst 1, 1) := by decide +kernel
theorem dX0_isFull_13 : decode cX0_isFull 13 = .ok (.goto 4, 3) := by decide +kernel
theorem dX0_isFull_16 : decode cX0_isFull 16 = .ok (.iconst 0, 1) := by decide +kernel
theorem dX0_isFull_17 : decode cX0_isFull 17 = .ok (.ireturn, 1) := by decide +kernel
set_option maxHeartbeats 1000000 in
set_option maxRecDepth 100000 in
theorem c_X0_isFull (l : Launch) (G : GT) (b : Nat → Nat) (u : SV) : Met l yX0_isFull (Cond.code yX0_isFull cX0_isFull 1 (some .boolean) :: bigW) ({ frames := 0, cells := 0, slots := 0, locals := 0 }) (BP G [.ref (b 0)] (fun U H => PW G (bfW G b u) H)) (QP (.int (fX0_isFull u))) 0 0 (fun _ => False) := by
  refine met_of (by decide) (Nat.le_of_ble_eq_true rfl) ?_
  intro p e s m below meth c ls hC hKN hB0 hl
  have hP := hB0
  have hl : lv_has ls 1 [(0, .ref (b 0))] := hl
  have hg : fX0_isFull u = fX0_isFull u := rfl
  refine lv_aload_n hC.1 hC.2.1 dX0_isFull_0 rfl (lv_at hl 0 rfl) ?_
  refine gf (v := .int (u 1 0)) hC fwX0 hKN hP 0 rfl rfl 1 (by decide) rfl wd_152 rfl dX0_isFull_1 ?_
  refine lv_aload_n hC.1 hC.2.1 dX0_isFull_4 rfl (lv_at hl 0 rfl) ?_
  refine gf (v := .ref (b 1)) hC fwX0 hKN hP 0 rfl rfl 0 (by decide) rfl wd_151 rfl dX0_isFull_5 ?_
  refine alen_n hC hKN hP 1 rfl dX0_isFull_8 ?_
  refine lv_icmp_lt (tgt := 16) hC.1 hC.2.1 dX0_isFull_9 (by decide) (fun k9 => ?_) (fun k9 => ?_)
  · refine lv_iconst (v := 0) hC.1 hC.2.1 dX0_isFull_16 (by decide) ?_
    have e_1 : fX0_isFull u = 0 := by delta fX0_isFull; exact Eq.trans (if_pos k9) rfl
    have hg : fX0_isFull u = 0 := by have e2 := congrArg (fun z => z) e_1; exact hg.trans e2
    exact eP_z hC (congrArg Value.int hg) rfl dX0_isFull_17
  · refine lv_iconst (v := 1) hC.1 hC.2.1 dX0_isFull_12 (by decide) ?_
    refine lv_goto (tgt := 17) hC.1 hC.2.1 dX0_isFull_13 (by decide) ?_
    have e_2 : fX0_isFull u = 1 := by delta fX0_isFull; exact Eq.trans (if_neg k9) rfl
    have hg : fX0_isFull u = 1 := by have e2 := congrArg (fun z => z) e_2; exact hg.trans e2
    exact eP_z hC (congrArg Value.int hg) rfl dX0_isFull_17

theorem dX0_codeAt_0 : decode cX0_codeAt 0 = .ok (.aload_n 0, 1) := by decide +kernel
theorem dX0_codeAt_1 : decode cX0_codeAt 1 = .ok (.getfield 9, 3) := by decide +kernel
theorem dX0_codeAt_4 : decode cX0_codeAt 4 = .ok (.iload_n 1, 1) := by decide +kernel
theorem dX0_codeAt_5 : decode cX0_codeAt 5 = .ok (.invokestatic 23, 3) := by decide +kernel
theorem dX0_codeAt_8 : decode cX0_codeAt 8 = .ok (.ireturn, 1) := by decide +kernel
set_option maxHeartbeats 1000000 in
set_option maxRecDepth 100000 in
theorem c_X0_codeAt (l : Launch) (G : GT) (b : Nat → Nat) (u : SV) (x1 : Int32) : Met l yX0_codeAt (Cond.code yX0_codeAt cX0_codeAt 2 (some .int) :: bigW) ({ frames := 1, cells := 0, slots := 0, locals := 21 }) (BP G [.ref (b 0), .int x1] (fun U H => PW G (bfW G b u) H)) (QP (.int (fX0_codeAt u x1))) 0 0 (fun _ => False) := by
  refine met_of (by decide) (Nat.le_of_ble_eq_true rfl) ?_
  intro p e s m below meth c ls hC hKN hB0 hl
  have hP := hB0
  have hl : lv_has ls 2 [(0, .ref (b 0)), (1, .int x1)] := hl
  have hg : fX0_codeAt u x1 = fX0_codeAt u x1 := rfl
  refine lv_aload_n hC.1 hC.2.1 dX0_codeAt_0 rfl (lv_at hl 0 rfl) ?_
  refine gf (v := .ref (b 1)) hC fwX0 hKN hP 0 rfl rfl 0 (by decide) rfl wd_151 rfl dX0_codeAt_1 ?_
  refine lv_iload_n hC.1 hC.2.1 dX0_codeAt_4 rfl (lv_at hl 1 rfl) ?_
  refine runP (rSN (B := fun U H => RD (b 1) 60 (u 0) U H) (As := [.ref (b 1), .int x1]) (rest := []) hC mwX5_at (c_X5_at l G (b 1) 60 (u 0) x1) wd_249 (nm_1 hKN) ⟨rfl, rfl⟩ ⟨Nat.le_of_ble_eq_true rfl, Nat.le_of_ble_eq_true rfl⟩ (stb_RD _ _ _) hKN (RD.ofP hKN hP 1 rfl) rfl hl.1 rfl (Nat.le_of_ble_eq_true rfl) dX0_codeAt_5 ⟨Nat.zero_le _, Nat.zero_le _⟩) ?_
  have e_1 : fX0_codeAt u x1 = fX5_at 60 (u 0) x1 := by delta fX0_codeAt; exact rfl
  have hg : fX0_codeAt u x1 = fX5_at 60 (u 0) x1 := by have e2 := congrArg (fun z => z) e_1; exact hg.trans e2
  exact eP_i hC (congrArg Value.int hg) dX0_codeAt_8

theorem dX0_addCode_0 : decode cX0_addCode 0 = .ok (.aload_n 0, 1) := by decide +kernel
theorem dX0_addCode_1 : decode cX0_addCode 1 = .ok (.getfield 9, 3) := by decide +kernel
theorem dX0_addCode_4 : decode cX0_addCode 4 = .ok (.aload_n 0, 1) := by decide +kernel
theorem dX0_addCode_5 : decode cX0_addCode 5 = .ok (.getfield 13, 3) := by decide +kernel
theorem dX0_addCode_8 : decode cX0_addCode 8 = .ok (.iload_n 1, 1) := by decide +kernel
theorem dX0_addCode_9 : decode cX0_addCode 9 = .ok (.invokestatic 17, 3) := by decide +kernel
theorem dX0_addCode_12 : decode cX0_addCode 12 = .ok (.aload_n 0, 1) := by decide +kernel
theorem dX0_addCode_13 : decode cX0_addCode 13 = .ok (.dup, 1) := by decide +kernel
theorem dX0_addCode_14 : decode cX0_addCode 14 = .ok (.getfield 13, 3) := by decide +kernel
theorem dX0_addCode_17 : decode cX0_addCode 17 = .ok (.iconst 1, 1) := by decide +kernel
theorem dX0_addCode_18 : decode cX0_addCode 18 = .ok (.iadd, 1) := by decide +kernel
theorem dX0_addCode_19 : decode cX0_addCode 19 = .ok (.putfield 13, 3) := by decide +kernel
theorem dX0_addCode_22 : decode cX0_addCode 22 = .ok (.return_, 1) := by decide +kernel
set_option maxHeartbeats 1000000 in
set_option maxRecDepth 100000 in
theorem c_X0_addCode (l : Launch) (G : GT) (b : Nat → Nat) (u : SV) (x1 : Int32) (hq : bfD G b) : Met l yX0_addCode (Cond.code yX0_addCode cX0_addCode 2 none :: bigW) ({ frames := 1, cells := 0, slots := 0, locals := 22 }) (BP G [.ref (b 0), .int x1] (fun U H => PW G (bfW G b u) H)) (QE (none) (fun H => PW G (bfW G b (fX0_addCode u x1)) H) (bfA b)) 0 0 (bfA b) := by
  refine met_of (by decide) (Nat.le_of_ble_eq_true rfl) ?_
  intro p e s m below meth c ls hC hKN hB0 hl
  have hP := hB0
  have hl : lv_has ls 2 [(0, .ref (b 0)), (1, .int x1)] := hl
  have hS : va_S (bfA b) s.heap s.heap [] := va_S.rf
  have hAL : ∀ a, (bfA b) a → gL G ≤ a := bfD_low hq
  have hg : fX0_addCode u x1 = fX0_addCode u x1 := rfl
  refine lv_aload_n hC.1 hC.2.1 dX0_addCode_0 rfl (lv_at hl 0 rfl) ?_
  refine gf (v := .ref (b 1)) hC fwX0 hKN hP 0 rfl rfl 0 (by decide) rfl wd_151 rfl dX0_addCode_1 ?_
  refine lv_aload_n hC.1 hC.2.1 dX0_addCode_4 rfl (lv_at hl 0 rfl) ?_
  refine gf (v := .int (u 1 0)) hC fwX0 hKN hP 0 rfl rfl 1 (by decide) rfl wd_152 rfl dX0_addCode_5 ?_
  refine lv_iload_n hC.1 hC.2.1 dX0_addCode_8 rfl (lv_at hl 1 rfl) ?_
  refine runE (rSN (B := fun U H => PW G (a1W G (b 1) 60 (u 0)) H) (As := [.ref (b 1), .int (u 1 0), .int x1]) (rest := []) hC mwX5_put (c_X5_put l G (b 1) 60 (u 0) (u 1 0) x1 (bfD_low hq _ ⟨1, by decide, rfl⟩)) wd_492 (nm_12 hKN) ⟨rfl, rfl⟩ ⟨Nat.le_of_ble_eq_true rfl, Nat.le_of_ble_eq_true rfl⟩ (stb_h (fun H => PW G (a1W G (b 1) 60 (u 0)) H)) hKN (one_of hP 1 rfl) rfl hl.1 rfl (Nat.le_of_ble_eq_true rfl) dX0_addCode_9 ⟨Nat.zero_le _, Nat.zero_le _⟩) hS (fun _ h => ⟨1, by decide, h⟩) (fun _ h => ⟨1, by decide, h⟩) (fun H locs hq_1 _ hk_3 hS => ?_)
  have hP : PW G (bfW G b (mkB (fX5_put 60 (u 0) (u 1 0) x1) (u 1 0))) H := one_set hP (bfD_D hq u) 1 rfl hq_1 hk_3
  refine lv_aload_n hC.1 hC.2.1 dX0_addCode_12 rfl (lv_at hl 0 rfl) ?_
  refine lv_dup hC.1 hC.2.1 dX0_addCode_13 rfl ?_
  refine gf (v := .int (u 1 0)) hC fwX0 (hKN.go hAL hS) hP 0 rfl rfl 1 (by decide) rfl wd_152 rfl dX0_addCode_14 ?_
  refine lv_iconst (v := 1) hC.1 hC.2.1 dX0_addCode_17 (by decide) ?_
  refine lv_iadd hC.1 hC.2.1 dX0_addCode_18 ?_
  refine lv_topi (fun w_4 ew_4 => ?_)
  refine pf (v := .int w_4) (tv := .int) hC fwX0 (hKN.go hAL hS) hP (bfD_D hq (mkB (fX5_put 60 (u 0) (u 1 0) x1) (u 1 0))) hS 0 rfl rfl 1 (by decide) rfl wd_152 rfl rfl rfl (Nat.le_of_ble_eq_true rfl) dX0_addCode_19 (fun H locs hq_5 hS => ?_)
  have hP : PW G (bfW G b (mkB (fX5_put 60 (u 0) (u 1 0) x1) w_4)) H := hq_5
  have e_6 : fX0_addCode u x1 = mkB (fX5_put 60 (u 0) (u 1 0) x1) w_4 := by have q_ := ew_4.symm; subst q_; delta fX0_addCode; exact rfl
  have hg : fX0_addCode u x1 = mkB (fX5_put 60 (u 0) (u 1 0) x1) w_4 := by have e2 := congrArg (fun z => z) e_6; exact hg.trans e2
  exact eE_v hC (by show PW G (bfW G b (fX0_addCode u x1)) H; rw [hg]; exact hP) hS dX0_addCode_22

theorem dX1_beginPart_0 : decode cX1_beginPart 0 = .ok (.aload_n 0, 1) := by decide +kernel
theorem dX1_beginPart_1 : decode cX1_beginPart 1 = .ok (.iconst 0, 1) := by decide +kernel
theorem dX1_beginPart_2 : decode cX1_beginPart 2 = .ok (.putfield 21, 3) := by decide +kernel
theorem dX1_beginPart_5 : decode cX1_beginPart 5 = .ok (.aload_n 0, 1) := by decide +kernel
theorem dX1_beginPart_6 : decode cX1_beginPart 6 = .ok (.iconst 0, 1) := by decide +kernel
theorem dX1_beginPart_7 : decode cX1_beginPart 7 = .ok (.putfield 27, 3) := by decide +kernel
theorem dX1_beginPart_10 : decode cX1_beginPart 10 = .ok (.aload_n 0, 1) := by decide +kernel
theorem dX1_beginPart_11 : decode cX1_beginPart 11 = .ok (.iconst 0, 1) := by decide +kernel
theorem dX1_beginPart_12 : decode cX1_beginPart 12 = .ok (.putfield 30, 3) := by decide +kernel
theorem dX1_beginPart_15 : decode cX1_beginPart 15 = .ok (.aload_n 0, 1) := by decide +kernel
theorem dX1_beginPart_16 : decode cX1_beginPart 16 = .ok (.iconst 0, 1) := by decide +kernel
theorem dX1_beginPart_17 : decode cX1_beginPart 17 = .ok (.putfield 33, 3) := by decide +kernel
theorem dX1_beginPart_20 : decode cX1_beginPart 20 = .ok (.aload_n 0, 1) := by decide +kernel
theorem dX1_beginPart_21 : decode cX1_beginPart 21 = .ok (.iconst 0, 1) := by decide +kernel
theorem dX1_beginPart_22 : decode cX1_beginPart 22 = .ok (.putfield 39, 3) := by decide +kernel
theorem dX1_beginPart_25 : decode cX1_beginPart 25 = .ok (.return_, 1) := by decide +kernel
set_option maxHeartbeats 1000000 in
set_option maxRecDepth 100000 in
theorem c_X1_beginPart (l : Launch) (G : GT) (a : Nat) (r : Nat → Int32) (hlow : gL G ≤ a) : Met l yX1_beginPart (Cond.code yX1_beginPart cX1_beginPart 1 none :: bigW) ({ frames := 0, cells := 0, slots := 0, locals := 0 }) (BP G [.ref a] (fun U H => PW G (rrW G a r) H)) (QE (none) (fun H => PW G (rrW G a (fX1_beginPart r)) H) (fun z => z = a)) 0 0 (fun z => z = a) := by
  refine met_of (by decide) (Nat.le_of_ble_eq_true rfl) ?_
  intro p e s m below meth c ls hC hKN hB0 hl
  have hP := hB0
  have hl : lv_has ls 1 [(0, .ref a)] := hl
  have hS : va_S (fun z => z = a) s.heap s.heap [] := va_S.rf
  have hAL : ∀ z, (fun z => z = a) z → gL G ≤ z := fun z h => by have h : z = a := h; rw [h]; exact hlow
  have hg : fX1_beginPart r = fX1_beginPart r := rfl
  refine lv_aload_n hC.1 hC.2.1 dX1_beginPart_0 rfl (lv_at hl 0 rfl) ?_
  refine lv_iconst (v := 0) hC.1 hC.2.1 dX1_beginPart_1 (by decide) ?_
  refine pf (v := .int 0) (tv := .int) hC fwX1 hKN hP (rrW_D r) hS 0 rfl rfl 0 (by decide) rfl wd_167 rfl rfl rfl (Nat.le_of_ble_eq_true rfl) dX1_beginPart_2 (fun H locs hq_1 hS => ?_)
  have hP : PW G (rrW G a (mkR 0 (r 1) (r 2) (r 3) (r 4) (r 5) (r 6) (r 7) (r 8) (r 9))) H := hq_1
  refine lv_aload_n hC.1 hC.2.1 dX1_beginPart_5 rfl (lv_at hl 0 rfl) ?_
  refine lv_iconst (v := 0) hC.1 hC.2.1 dX1_beginPart_6 (by decide) ?_
  refine pf (v := .int 0) (tv := .int) hC fwX1 (hKN.go hAL hS) hP (rrW_D (mkR 0 (r 1) (r 2) (r 3) (r 4) (r 5) (r 6) (r 7) (r 8) (r 9))) hS 0 rfl rfl 4 (by decide) rfl wd_171 rfl rfl rfl (Nat.le_of_ble_eq_true rfl) dX1_beginPart_7 (fun H locs hq_2 hS => ?_)
  have hP : PW G (rrW G a (mkR 0 (r 1) (r 2) (r 3) 0 (r 5) (r 6) (r 7) (r 8) (r 9))) H := hq_2
  refine lv_aload_n hC.1 hC.2.1 dX1_beginPart_10 rfl (lv_at hl 0 rfl) ?_
  refine lv_iconst (v := 0) hC.1 hC.2.1 dX1_beginPart_11 (by decide) ?_
  refine pf (v := .int 0) (tv := .int) hC fwX1 (hKN.go hAL hS) hP (rrW_D (mkR 0 (r 1) (r 2) (r 3) 0 (r 5) (r 6) (r 7) (r 8) (r 9))) hS 0 rfl rfl 5 (by decide) rfl wd_173 rfl rfl rfl (Nat.le_of_ble_eq_true rfl) dX1_beginPart_12 (fun H locs hq_3 hS => ?_)
  have hP : PW G (rrW G a (mkR 0 (r 1) (r 2) (r 3) 0 0 (r 6) (r 7) (r 8) (r 9))) H := hq_3
  refine lv_aload_n hC.1 hC.2.1 dX1_beginPart_15 rfl (lv_at hl 0 rfl) ?_
  refine lv_iconst (v := 0) hC.1 hC.2.1 dX1_beginPart_16 (by decide) ?_
  refine pf (v := .int 0) (tv := .int) hC fwX1 (hKN.go hAL hS) hP (rrW_D (mkR 0 (r 1) (r 2) (r 3) 0 0 (r 6) (r 7) (r 8) (r 9))) hS 0 rfl rfl 6 (by decide) rfl wd_175 rfl rfl rfl (Nat.le_of_ble_eq_true rfl) dX1_beginPart_17 (fun H locs hq_4 hS => ?_)
  have hP : PW G (rrW G a (mkR 0 (r 1) (r 2) (r 3) 0 0 0 (r 7) (r 8) (r 9))) H := hq_4
  refine lv_aload_n hC.1 hC.2.1 dX1_beginPart_20 rfl (lv_at hl 0 rfl) ?_
  refine lv_iconst (v := 0) hC.1 hC.2.1 dX1_beginPart_21 (by decide) ?_
  refine pf (v := .int 0) (tv := .int) hC fwX1 (hKN.go hAL hS) hP (rrW_D (mkR 0 (r 1) (r 2) (r 3) 0 0 0 (r 7) (r 8) (r 9))) hS 0 rfl rfl 8 (by decide) rfl wd_178 rfl rfl rfl (Nat.le_of_ble_eq_true rfl) dX1_beginPart_22 (fun H locs hq_5 hS => ?_)
  have hP : PW G (rrW G a (mkR 0 (r 1) (r 2) (r 3) 0 0 0 (r 7) 0 (r 9))) H := hq_5
  have e_6 : fX1_beginPart r = mkR 0 (r 1) (r 2) (r 3) 0 0 0 (r 7) 0 (r 9) := by delta fX1_beginPart; exact rfl
  have hg : fX1_beginPart r = mkR 0 (r 1) (r 2) (r 3) 0 0 0 (r 7) 0 (r 9) := by have e2 := congrArg (fun z => z) e_6; exact hg.trans e2
  exact eE_v hC (by show PW G (rrW G a (fX1_beginPart r)) H; rw [hg]; exact hP) hS dX1_beginPart_25

theorem dX1_isComplete_0 : decode cX1_isComplete 0 = .ok (.aload_n 0, 1) := by decide +kernel
theorem dX1_isComplete_1 : decode cX1_isComplete 1 = .ok (.getfield 21, 3) := by decide +kernel
theorem dX1_isComplete_4 : decode cX1_isComplete 4 = .ok (.iconst 5, 1) := by decide +kernel
theorem dX1_isComplete_5 : decode cX1_isComplete 5 = .ok (.if_icmp .eq 35, 3) := by decide +kernel
theorem dX1_isComplete_8 : decode cX1_isComplete 8 = .ok (.aload_n 0, 1) := by decide +kernel
theorem dX1_isComplete_9 : decode cX1_isComplete 9 = .ok (.getfield 21, 3) := by decide +kernel
theorem dX1_isComplete_12 : decode cX1_isComplete 12 = .ok (.iconst 2, 1) := by decide +kernel
theorem dX1_isComplete_13 : decode cX1_isComplete 13 = .ok (.if_icmp .ne 12, 3) := by decide +kernel
theorem dX1_isComplete_16 : decode cX1_isComplete 16 = .ok (.aload_n 0, 1) := by decide +kernel
theorem dX1_isComplete_17 : decode cX1_isComplete 17 = .ok (.getfield 33, 3) := by decide +kernel
theorem dX1_isComplete_20 : decode cX1_isComplete 20 = .ok (.bipush 6, 2) := by decide +kernel
theorem dX1_isComplete_22 : decode cX1_isComplete 22 = .ok (.if_icmp .eq 18, 3) := by decide +kernel
theorem dX1_isComplete_25 : decode cX1_isComplete 25 = .ok (.aload_n 0, 1) := by decide +kernel
theorem dX1_isComplete_26 : decode cX1_isComplete 26 = .ok (.getfield 21, 3) := by decide +kernel
theorem dX1_isComplete_29 : decode cX1_isComplete 29 = .ok (.iconst 4, 1) := by decide +kernel
theorem dX1_isComplete_30 : decode cX1_isComplete 30 = .ok (.if_icmp .ne 14, 3) := by decide +kernel
theorem dX1_isComplete_33 : decode cX1_isComplete 33 = .ok (.aload_n 0, 1) := by decide +kernel
theorem dX1_isComplete_34 : decode cX1_isComplete 34 = .ok (.getfield 39, 3) := by decide +kernel
theorem dX1_isComplete_37 : decode cX1_isComplete 37 = .ok (.ifCond .le 7, 3) := by decide +kernel
theorem dX1_isComplete_40 : decode cX1_isComplete 40 = .ok (.iconst 1, 1) := by decide +kernel
theorem dX1_isComplete_41 : decode cX1_isComplete 41 = .ok (.goto 4, 3) := by decide +kernel
theorem dX1_isComplete_44 : decode cX1_isComplete 44 = .ok (.iconst 0, 1) := by decide +kernel
theorem dX1_isComplete_45 : decode cX1_isComplete 45 = .ok (.ireturn, 1) := by decide +kernel
set_option maxHeartbeats 1000000 in
set_option maxRecDepth 100000 in
theorem c_X1_isComplete (l : Launch) (G : GT) (a : Nat) (r : Nat → Int32) : Met l yX1_isComplete (Cond.code yX1_isComplete cX1_isComplete 1 (some .boolean) :: bigW) ({ frames := 0, cells := 0, slots := 0, locals := 0 }) (BP G [.ref a] (fun U H => PW G (rrW G a r) H)) (QP (.int (fX1_isComplete r))) 0 0 (fun _ => False) := by
  refine met_of (by decide) (Nat.le_of_ble_eq_true rfl) ?_
  intro p e s m below meth c ls hC hKN hB0 hl
  have hP := hB0
  have hl : lv_has ls 1 [(0, .ref a)] := hl
  have hg : fX1_isComplete r = fX1_isComplete r := rfl
  refine lv_aload_n hC.1 hC.2.1 dX1_isComplete_0 rfl (lv_at hl 0 rfl) ?_
  refine gf (v := .int (r 0)) hC fwX1 hKN hP 0 rfl rfl 0 (by decide) rfl wd_167 rfl dX1_isComplete_1 ?_
  refine lv_iconst (v := 5) hC.1 hC.2.1 dX1_isComplete_4 (by decide) ?_
  refine lv_icmp_eq (tgt := 40) hC.1 hC.2.1 dX1_isComplete_5 (by decide) (fun k5 => ?_) (fun k5 => ?_)
  · refine lv_iconst (v := 1) hC.1 hC.2.1 dX1_isComplete_40 (by decide) ?_
    refine lv_goto (tgt := 45) hC.1 hC.2.1 dX1_isComplete_41 (by decide) ?_
    have e_1 : fX1_isComplete r = 1 := by delta fX1_isComplete; exact Eq.trans (if_pos k5) rfl
    have hg : fX1_isComplete r = 1 := by have e2 := congrArg (fun z => z) e_1; exact hg.trans e2
    exact eP_z hC (congrArg Value.int hg) rfl dX1_isComplete_45
  · refine lv_aload_n hC.1 hC.2.1 dX1_isComplete_8 rfl (lv_at hl 0 rfl) ?_
    refine gf (v := .int (r 0)) hC fwX1 hKN hP 0 rfl rfl 0 (by decide) rfl wd_167 rfl dX1_isComplete_9 ?_
    refine lv_iconst (v := 2) hC.1 hC.2.1 dX1_isComplete_12 (by decide) ?_
    refine lv_icmp_ne (tgt := 25) hC.1 hC.2.1 dX1_isComplete_13 (by decide) (fun k13 => ?_) (fun k13 => ?_)
    · refine lv_aload_n hC.1 hC.2.1 dX1_isComplete_25 rfl (lv_at hl 0 rfl) ?_
      refine gf (v := .int (r 0)) hC fwX1 hKN hP 0 rfl rfl 0 (by decide) rfl wd_167 rfl dX1_isComplete_26 ?_
      refine lv_iconst (v := 4) hC.1 hC.2.1 dX1_isComplete_29 (by decide) ?_
      refine lv_icmp_ne (tgt := 44) hC.1 hC.2.1 dX1_isComplete_30 (by decide) (fun k30 => ?_) (fun k30 => ?_)
      · refine lv_iconst (v := 0) hC.1 hC.2.1 dX1_isComplete_44 (by decide) ?_
        have e_2 : fX1_isComplete r = 0 := by delta fX1_isComplete; exact Eq.trans (if_neg k5) (Eq.trans (if_neg k13) (Eq.trans (if_neg k30) rfl))
        have hg : fX1_isComplete r = 0 := by have e2 := congrArg (fun z => z) e_2; exact hg.trans e2
        exact eP_z hC (congrArg Value.int hg) rfl dX1_isComplete_45
      · refine lv_aload_n hC.1 hC.2.1 dX1_isComplete_33 rfl (lv_at hl 0 rfl) ?_
        refine gf (v := .int (r 8)) hC fwX1 hKN hP 0 rfl rfl 8 (by decide) rfl wd_178 rfl dX1_isComplete_34 ?_
        refine lv_if_le (tgt := 44) hC.1 hC.2.1 dX1_isComplete_37 (by decide) (fun k37 => ?_) (fun k37 => ?_)
        · refine lv_iconst (v := 0) hC.1 hC.2.1 dX1_isComplete_44 (by decide) ?_
          have e_3 : fX1_isComplete r = 0 := by delta fX1_isComplete; exact Eq.trans (if_neg k5) (Eq.trans (if_neg k13) (Eq.trans (if_pos k30) (Eq.trans (if_pos k37) rfl)))
          have hg : fX1_isComplete r = 0 := by have e2 := congrArg (fun z => z) e_3; exact hg.trans e2
          exact eP_z hC (congrArg Value.int hg) rfl dX1_isComplete_45
        · refine lv_iconst (v := 1) hC.1 hC.2.1 dX1_isComplete_40 (by decide) ?_
          refine lv_goto (tgt := 45) hC.1 hC.2.1 dX1_isComplete_41 (by decide) ?_
          have e_4 : fX1_isComplete r = 1 := by delta fX1_isComplete; exact Eq.trans (if_neg k5) (Eq.trans (if_neg k13) (Eq.trans (if_pos k30) (Eq.trans (if_neg k37) rfl)))
          have hg : fX1_isComplete r = 1 := by have e2 := congrArg (fun z => z) e_4; exact hg.trans e2
          exact eP_z hC (congrArg Value.int hg) rfl dX1_isComplete_45
    · refine lv_aload_n hC.1 hC.2.1 dX1_isComplete_16 rfl (lv_at hl 0 rfl) ?_
      refine gf (v := .int (r 6)) hC fwX1 hKN hP 0 rfl rfl 6 (by decide) rfl wd_175 rfl dX1_isComplete_17 ?_
      refine lv_bipush (v := 6) hC.1 hC.2.1 dX1_isComplete_20 (by decide +kernel) ?_
      refine lv_icmp_eq (tgt := 40) hC.1 hC.2.1 dX1_isComplete_22 (by decide) (fun k22 => ?_) (fun k22 => ?_)
      · refine lv_iconst (v := 1) hC.1 hC.2.1 dX1_isComplete_40 (by decide) ?_
        refine lv_goto (tgt := 45) hC.1 hC.2.1 dX1_isComplete_41 (by decide) ?_
        have e_5 : fX1_isComplete r = 1 := by delta fX1_isComplete; exact Eq.trans (if_neg k5) (Eq.trans (if_pos k13) (Eq.trans (if_pos k22) rfl))
        have hg : fX1_isComplete r = 1 := by have e2 := congrArg (fun z => z) e_5; exact hg.trans e2
        exact eP_z hC (congrArg Value.int hg) rfl dX1_isComplete_45
      · refine lv_aload_n hC.1 hC.2.1 dX1_isComplete_25 rfl (lv_at hl 0 rfl) ?_
        refine gf (v := .int (r 0)) hC fwX1 hKN hP 0 rfl rfl 0 (by decide) rfl wd_167 rfl dX1_isComplete_26 ?_
        refine lv_iconst (v := 4) hC.1 hC.2.1 dX1_isComplete_29 (by decide) ?_
        refine lv_icmp_ne (tgt := 44) hC.1 hC.2.1 dX1_isComplete_30 (by decide) (fun k30 => ?_) (fun k30 => ?_)
        · refine lv_iconst (v := 0) hC.1 hC.2.1 dX1_isComplete_44 (by decide) ?_
          have e_6 : fX1_isComplete r = 0 := by delta fX1_isComplete; exact Eq.trans (if_neg k5) (Eq.trans (if_pos k13) (Eq.trans (if_neg k22) (Eq.trans (if_neg k30) rfl)))
          have hg : fX1_isComplete r = 0 := by have e2 := congrArg (fun z => z) e_6; exact hg.trans e2
          exact eP_z hC (congrArg Value.int hg) rfl dX1_isComplete_45
        · refine lv_aload_n hC.1 hC.2.1 dX1_isComplete_33 rfl (lv_at hl 0 rfl) ?_
          refine gf (v := .int (r 8)) hC fwX1 hKN hP 0 rfl rfl 8 (by decide) rfl wd_178 rfl dX1_isComplete_34 ?_
          refine lv_if_le (tgt := 44) hC.1 hC.2.1 dX1_isComplete_37 (by decide) (fun k37 => ?_) (fun k37 => ?_)
          · refine lv_iconst (v := 0) hC.1 hC.2.1 dX1_isComplete_44 (by decide) ?_
            have e_7 : fX1_isComplete r = 0 := by delta fX1_isComplete; exact Eq.trans (if_neg k5) (Eq.trans (if_pos k13) (Eq.trans (if_neg k22) (Eq.trans (if_pos k30) (Eq.trans (if_pos k37) rfl))))
            have hg : fX1_isComplete r = 0 := by have e2 := congrArg (fun z => z) e_7; exact hg.trans e2
            exact eP_z hC (congrArg Value.int hg) rfl dX1_isComplete_45
          · refine lv_iconst (v := 1) hC.1 hC.2.1 dX1_isComplete_40 (by decide) ?_
            refine lv_goto (tgt := 45) hC.1 hC.2.1 dX1_isComplete_41 (by decide) ?_
            have e_8 : fX1_isComplete r = 1 := by delta fX1_isComplete; exact Eq.trans (if_neg k5) (Eq.trans (if_pos k13) (Eq.trans (if_neg k22) (Eq.trans (if_pos k30) (Eq.trans (if_neg k37) rfl))))
            have hg : fX1_isComplete r = 1 := by have e2 := congrArg (fun z => z) e_8; exact hg.trans e2
            exact eP_z hC (congrArg Value.int hg) rfl dX1_isComplete_45

theorem dX1_takeBetween_0 : decode cX1_takeBetween 0 = .ok (.aload_n 0, 1) := by decide +kernel
theorem dX1_takeBetween_1 : decode cX1_takeBetween 1 = .ok (.invokevirtual 80, 3) := by decide +kernel
theorem dX1_takeBetween_4 : decode cX1_takeBetween 4 = .ok (.ifCond .ne 5, 3) := by decide +kernel
theorem dX1_takeBetween_7 : decode cX1_takeBetween 7 = .ok (.iconst 0, 1) := by decide +kernel
theorem dX1_takeBetween_8 : decode cX1_takeBetween 8 = .ok (.ireturn, 1) := by decide +kernel
theorem dX1_takeBetween_9 : decode cX1_takeBetween 9 = .ok (.aload_n 0, 1) := by decide +kernel
theorem dX1_takeBetween_10 : decode cX1_takeBetween 10 = .ok (.invokevirtual 45, 3) := by decide +kernel
theorem dX1_takeBetween_13 : decode cX1_takeBetween 13 = .ok (.iconst 1, 1) := by decide +kernel
theorem dX1_takeBetween_14 : decode cX1_takeBetween 14 = .ok (.ireturn, 1) := by decide +kernel
set_option maxHeartbeats 1000000 in
set_option maxRecDepth 100000 in
theorem c_X1_takeBetween (l : Launch) (G : GT) (a : Nat) (r : Nat → Int32) (hlow : gL G ≤ a) : Met l yX1_takeBetween (Cond.code yX1_takeBetween cX1_takeBetween 1 (some .boolean) :: bigW) ({ frames := 1, cells := 0, slots := 0, locals := 20 }) (BP G [.ref a] (fun U H => PW G (rrW G a r) H)) (QE (some (.int (fX1_takeBetween r).2)) (fun H => PW G (rrW G a (fX1_takeBetween r).1) H) (fun z => z = a)) 0 0 (fun z => z = a) := by
  refine met_of (by decide) (Nat.le_of_ble_eq_true rfl) ?_
  intro p e s m below meth c ls hC hKN hB0 hl
  have hP := hB0
  have hl : lv_has ls 1 [(0, .ref a)] := hl
  have hS : va_S (fun z => z = a) s.heap s.heap [] := va_S.rf
  have hAL : ∀ z, (fun z => z = a) z → gL G ≤ z := fun z h => by have h : z = a := h; rw [h]; exact hlow
  have hg : fX1_takeBetween r = fX1_takeBetween r := rfl
  refine lv_aload_n hC.1 hC.2.1 dX1_takeBetween_0 rfl (lv_at hl 0 rfl) ?_
  refine runP (rV (B := fun U H => PW G (rrW G a r) H) (As := []) (rest := []) hC mwX1_isComplete (c_X1_isComplete l G a r) iwX1_isComplete wd_259 ⟨rfl, rfl⟩ ⟨Nat.le_of_ble_eq_true rfl, Nat.le_of_ble_eq_true rfl⟩ (stb_h (fun H => PW G (rrW G a r) H)) hKN hP (va_recv hKN.k hP (ci := 1) (q0 := 0) rfl rfl) rfl hl.1 rfl (Nat.le_of_ble_eq_true rfl) dX1_takeBetween_1 ⟨Nat.zero_le _, Nat.zero_le _⟩) ?_
  refine lv_if_ne (tgt := 9) hC.1 hC.2.1 dX1_takeBetween_4 (by decide) (fun k4 => ?_) (fun k4 => ?_)
  · refine lv_aload_n hC.1 hC.2.1 dX1_takeBetween_9 rfl (lv_at hl 0 rfl) ?_
    refine runE (rV (B := fun U H => PW G (rrW G a r) H) (As := []) (rest := []) hC mwX1_beginPart (c_X1_beginPart l G a r hlow) iwX1_beginPart wd_240 ⟨rfl, rfl⟩ ⟨Nat.le_of_ble_eq_true rfl, Nat.le_of_ble_eq_true rfl⟩ (stb_h (fun H => PW G (rrW G a r) H)) hKN hP (va_recv hKN.k hP (ci := 1) (q0 := 0) rfl rfl) rfl hl.1 rfl (Nat.le_of_ble_eq_true rfl) dX1_takeBetween_10 ⟨Nat.zero_le _, Nat.zero_le _⟩) hS (fun _ h => h) (fun _ h => h) (fun H locs hq_1 _ _ hS => ?_)
    have hP : PW G (rrW G a (fX1_beginPart r)) H := hq_1
    obtain ⟨r_2, er_2⟩ : ∃ z, z = fX1_beginPart r := ⟨_, rfl⟩
    rw [← er_2] at hP
    refine lv_iconst (v := 1) hC.1 hC.2.1 dX1_takeBetween_13 (by decide) ?_
    have e_3 : fX1_takeBetween r = (r_2, 1) := by
      delta fX1_takeBetween
      try dsimp only
      rw [← er_2]
      exact Eq.trans (if_neg k4) rfl
    have hg : fX1_takeBetween r = (r_2, 1) := by have e2 := congrArg (fun z => z) e_3; exact hg.trans e2
    exact eE_z hC (by rw [hg]) rfl (by show PW G (rrW G a (fX1_takeBetween r).1) H; rw [hg]; exact hP) hS dX1_takeBetween_14
  · refine lv_iconst (v := 0) hC.1 hC.2.1 dX1_takeBetween_7 (by decide) ?_
    have e_4 : fX1_takeBetween r = (r, 0) := by
      delta fX1_takeBetween
      try dsimp only
      exact Eq.trans (if_pos k4) rfl
    have hg : fX1_takeBetween r = (r, 0) := by have e2 := congrArg (fun z => z) e_4; exact hg.trans e2
    exact eE_z hC (by rw [hg]) rfl (by show PW G (rrW G a (fX1_takeBetween r).1) s.heap; rw [hg]; exact hP) hS dX1_takeBetween_8

theorem dX1_beginWord_0 : decode cX1_beginWord 0 = .ok (.aload_n 0, 1) := by decide +kernel
theorem dX1_beginWord_1 : decode cX1_beginWord 1 = .ok (.aload_n 1, 1) := by decide +kernel
theorem dX1_beginWord_2 : decode cX1_beginWord 2 = .ok (.putfield 11, 3) := by decide +kernel
theorem dX1_beginWord_5 : decode cX1_beginWord 5 = .ok (.aload_n 0, 1) := by decide +kernel
theorem dX1_beginWord_6 : decode cX1_beginWord 6 = .ok (.iconst 1, 1) := by decide +kernel
theorem dX1_beginWord_7 : decode cX1_beginWord 7 = .ok (.putfield 17, 3) := by decide +kernel
theorem dX1_beginWord_10 : decode cX1_beginWord 10 = .ok (.aload_n 0, 1) := by decide +kernel
theorem dX1_beginWord_11 : decode cX1_beginWord 11 = .ok (.iload_n 2, 1) := by decide +kernel
theorem dX1_beginWord_12 : decode cX1_beginWord 12 = .ok (.putfield 24, 3) := by decide +kernel
theorem dX1_beginWord_15 : decode cX1_beginWord 15 = .ok (.aload_n 0, 1) := by decide +kernel
theorem dX1_beginWord_16 : decode cX1_beginWord 16 = .ok (.iconst 1, 1) := by decide +kernel
theorem dX1_beginWord_17 : decode cX1_beginWord 17 = .ok (.putfield 21, 3) := by decide +kernel
theorem dX1_beginWord_20 : decode cX1_beginWord 20 = .ok (.iconst 1, 1) := by decide +kernel
theorem dX1_beginWord_21 : decode cX1_beginWord 21 = .ok (.ireturn, 1) := by decide +kernel
set_option maxHeartbeats 1000000 in
set_option maxRecDepth 100000 in
theorem c_X1_beginWord (l : Launch) (G : GT) (a : Nat) (r : Nat → Int32) (w1 : Nat) (x2 : Int32) (hlow : gL G ≤ a) (hw : w1 < 8) : Met l yX1_beginWord (Cond.code yX1_beginWord cX1_beginWord 3 (some .boolean) :: bigW) ({ frames := 0, cells := 0, slots := 0, locals := 0 }) (BP G [.ref a, .ref (gA G (10 + w1)), .int x2] (fun U H => PW G (rrW G a r) H)) (QE (some (.int (fX1_beginWord r w1 x2).2)) (fun H => PW G (rrW G a (fX1_beginWord r w1 x2).1) H) (fun z => z = a)) 0 0 (fun z => z = a) := by
  refine met_of (by decide) (Nat.le_of_ble_eq_true rfl) ?_
  intro p e s m below meth c ls hC hKN hB0 hl
  have hP := hB0
  have hl : lv_has ls 3 [(0, .ref a), (1, .ref (gA G (10 + w1))), (2, .int x2)] := hl
  have hS : va_S (fun z => z = a) s.heap s.heap [] := va_S.rf
  have hAL : ∀ z, (fun z => z = a) z → gL G ≤ z := fun z h => by have h : z = a := h; rw [h]; exact hlow
  have hg : fX1_beginWord r w1 x2 = fX1_beginWord r w1 x2 := rfl
  refine lv_aload_n hC.1 hC.2.1 dX1_beginWord_0 rfl (lv_at hl 0 rfl) ?_
  refine lv_aload_n hC.1 hC.2.1 dX1_beginWord_1 rfl (lv_at hl 1 rfl) ?_
  refine pf (v := .ref (gA G (10 + w1))) (tv := .object "java/lang/String") hC fwX1 hKN hP (rrW_D r) hS 0 rfl rfl 2 (by decide) rfl wd_169 rfl rfl rfl (Nat.le_of_ble_eq_true rfl) dX1_beginWord_2 (fun H locs hq_1 hS => ?_)
  have hP : PW G (rrW G a (mkR (r 0) (r 1) (nI w1) (r 3) (r 4) (r 5) (r 6) (r 7) (r 8) (r 9))) H := by rw [rr_word (by omega)]; exact hq_1
  refine lv_aload_n hC.1 hC.2.1 dX1_beginWord_5 rfl (lv_at hl 0 rfl) ?_
  refine lv_iconst (v := 1) hC.1 hC.2.1 dX1_beginWord_6 (by decide) ?_
  refine pf (v := .int 1) (tv := .int) hC fwX1 (hKN.go hAL hS) hP (rrW_D (mkR (r 0) (r 1) (nI w1) (r 3) (r 4) (r 5) (r 6) (r 7) (r 8) (r 9))) hS 0 rfl rfl 3 (by decide) rfl wd_170 rfl rfl rfl (Nat.le_of_ble_eq_true rfl) dX1_beginWord_7 (fun H locs hq_2 hS => ?_)
  have hP : PW G (rrW G a (mkR (r 0) (r 1) (nI w1) 1 (r 4) (r 5) (r 6) (r 7) (r 8) (r 9))) H := hq_2
  refine lv_aload_n hC.1 hC.2.1 dX1_beginWord_10 rfl (lv_at hl 0 rfl) ?_
  refine lv_iload_n hC.1 hC.2.1 dX1_beginWord_11 rfl (lv_at hl 2 rfl) ?_
  refine pf (v := .int x2) (tv := .int) hC fwX1 (hKN.go hAL hS) hP (rrW_D (mkR (r 0) (r 1) (nI w1) 1 (r 4) (r 5) (r 6) (r 7) (r 8) (r 9))) hS 0 rfl rfl 1 (by decide) rfl wd_168 rfl rfl rfl (Nat.le_of_ble_eq_true rfl) dX1_beginWord_12 (fun H locs hq_3 hS => ?_)
  have hP : PW G (rrW G a (mkR (r 0) x2 (nI w1) 1 (r 4) (r 5) (r 6) (r 7) (r 8) (r 9))) H := hq_3
  refine lv_aload_n hC.1 hC.2.1 dX1_beginWord_15 rfl (lv_at hl 0 rfl) ?_
  refine lv_iconst (v := 1) hC.1 hC.2.1 dX1_beginWord_16 (by decide) ?_
  refine pf (v := .int 1) (tv := .int) hC fwX1 (hKN.go hAL hS) hP (rrW_D (mkR (r 0) x2 (nI w1) 1 (r 4) (r 5) (r 6) (r 7) (r 8) (r 9))) hS 0 rfl rfl 0 (by decide) rfl wd_167 rfl rfl rfl (Nat.le_of_ble_eq_true rfl) dX1_beginWord_17 (fun H locs hq_4 hS => ?_)
  have hP : PW G (rrW G a (mkR 1 x2 (nI w1) 1 (r 4) (r 5) (r 6) (r 7) (r 8) (r 9))) H := hq_4
  refine lv_iconst (v := 1) hC.1 hC.2.1 dX1_beginWord_20 (by decide) ?_
  have e_5 : fX1_beginWord r w1 x2 = (mkR 1 x2 (nI w1) 1 (r 4) (r 5) (r 6) (r 7) (r 8) (r 9), 1) := by delta fX1_beginWord; exact rfl
  have hg : fX1_beginWord r w1 x2 = (mkR 1 x2 (nI w1) 1 (r 4) (r 5) (r 6) (r 7) (r 8) (r 9), 1) := by have e2 := congrArg (fun z => z) e_5; exact hg.trans e2
  exact eE_z hC (by rw [hg]) rfl (by show PW G (rrW G a (fX1_beginWord r w1 x2).1) H; rw [hg]; exact hP) hS dX1_beginWord_21

theorem dX1_beginKind_0 : decode cX1_beginKind 0 = .ok (.aload_n 0, 1) := by decide +kernel
theorem dX1_beginKind_1 : decode cX1_beginKind 1 = .ok (.iload_n 1, 1) := by decide +kernel
theorem dX1_beginKind_2 : decode cX1_beginKind 2 = .ok (.putfield 27, 3) := by decide +kernel
theorem dX1_beginKind_5 : decode cX1_beginKind 5 = .ok (.aload_n 0, 1) := by decide +kernel
theorem dX1_beginKind_6 : decode cX1_beginKind 6 = .ok (.aload_n 2, 1) := by decide +kernel
theorem dX1_beginKind_7 : decode cX1_beginKind 7 = .ok (.iload_n 3, 1) := by decide +kernel
theorem dX1_beginKind_8 : decode cX1_beginKind 8 = .ok (.invokevirtual 105, 3) := by decide +kernel
theorem dX1_beginKind_11 : decode cX1_beginKind 11 = .ok (.ireturn, 1) := by decide +kernel
set_option maxHeartbeats 1000000 in
set_option maxRecDepth 100000 in
theorem c_X1_beginKind (l : Launch) (G : GT) (a : Nat) (r : Nat → Int32) (x1 : Int32) (w2 : Nat) (x3 : Int32) (hlow : gL G ≤ a) (hw : w2 < 8) : Met l yX1_beginKind (Cond.code yX1_beginKind cX1_beginKind 4 (some .boolean) :: bigW) ({ frames := 1, cells := 0, slots := 0, locals := 22 }) (BP G [.ref a, .int x1, .ref (gA G (10 + w2)), .int x3] (fun U H => PW G (rrW G a r) H)) (QE (some (.int (fX1_beginKind r x1 w2 x3).2)) (fun H => PW G (rrW G a (fX1_beginKind r x1 w2 x3).1) H) (fun z => z = a)) 0 0 (fun z => z = a) := by
  refine met_of (by decide) (Nat.le_of_ble_eq_true rfl) ?_
  intro p e s m below meth c ls hC hKN hB0 hl
  have hP := hB0
  have hl : lv_has ls 4 [(0, .ref a), (1, .int x1), (2, .ref (gA G (10 + w2))), (3, .int x3)] := hl
  have hS : va_S (fun z => z = a) s.heap s.heap [] := va_S.rf
  have hAL : ∀ z, (fun z => z = a) z → gL G ≤ z := fun z h => by have h : z = a := h; rw [h]; exact hlow
  have hg : fX1_beginKind r x1 w2 x3 = fX1_beginKind r x1 w2 x3 := rfl
  refine lv_aload_n hC.1 hC.2.1 dX1_beginKind_0 rfl (lv_at hl 0 rfl) ?_
  refine lv_iload_n hC.1 hC.2.1 dX1_beginKind_1 rfl (lv_at hl 1 rfl) ?_
  refine pf (v := .int x1) (tv := .int) hC fwX1 hKN hP (rrW_D r) hS 0 rfl rfl 4 (by decide) rfl wd_171 rfl rfl rfl (Nat.le_of_ble_eq_true rfl) dX1_beginKind_2 (fun H locs hq_1 hS => ?_)
  have hP : PW G (rrW G a (mkR (r 0) (r 1) (r 2) (r 3) x1 (r 5) (r 6) (r 7) (r 8) (r 9))) H := hq_1
  refine lv_aload_n hC.1 hC.2.1 dX1_beginKind_5 rfl (lv_at hl 0 rfl) ?_
  refine lv_aload_n hC.1 hC.2.1 dX1_beginKind_6 rfl (lv_at hl 2 rfl) ?_
  refine lv_iload_n hC.1 hC.2.1 dX1_beginKind_7 rfl (lv_at hl 3 rfl) ?_
  refine runE (rV (B := fun U H => PW G (rrW G a (mkR (r 0) (r 1) (r 2) (r 3) x1 (r 5) (r 6) (r 7) (r 8) (r 9))) H) (As := [.ref (gA G (10 + w2)), .int x3]) (rest := []) hC mwX1_beginWord (c_X1_beginWord l G a (mkR (r 0) (r 1) (r 2) (r 3) x1 (r 5) (r 6) (r 7) (r 8) (r 9)) w2 x3 hlow hw) iwX1_beginWord wd_272 ⟨rfl, rfl⟩ ⟨Nat.le_of_ble_eq_true rfl, Nat.le_of_ble_eq_true rfl⟩ (stb_h (fun H => PW G (rrW G a (mkR (r 0) (r 1) (r 2) (r 3) x1 (r 5) (r 6) (r 7) (r 8) (r 9))) H)) (hKN.go hAL hS) hP (va_recv (hKN.go hAL hS).k hP (ci := 1) (q0 := 0) rfl rfl) rfl hl.1 rfl (Nat.le_of_ble_eq_true rfl) dX1_beginKind_8 ⟨Nat.zero_le _, Nat.zero_le _⟩) hS (fun _ h => h) (fun _ h => h) (fun H locs hq_2 _ _ hS => ?_)
  have hP : PW G (rrW G a ((fX1_beginWord (mkR (r 0) (r 1) (r 2) (r 3) x1 (r 5) (r 6) (r 7) (r 8) (r 9)) w2 x3).1)) H := hq_2
  obtain ⟨r_3, er_3⟩ : ∃ z, z = fX1_beginWord (mkR (r 0) (r 1) (r 2) (r 3) x1 (r 5) (r 6) (r 7) (r 8) (r 9)) w2 x3 := ⟨_, rfl⟩
  rw [← er_3] at hP
  show W p l e ({ frames := 1, cells := 0, slots := 0, locals := 22 }) s m ([.ref a, .int x1, .ref (gA G (10 + w2)), .int x3] : List Value).toArray below meth c H locs (0 + 0) (0 + 0) _ (F0 m (8 + 3) ls [.int ((fX1_beginWord (mkR (r 0) (r 1) (r 2) (r 3) x1 (r 5) (r 6) (r 7) (r 8) (r 9)) w2 x3).2)])
  rw [← er_3]
  have e_4 : fX1_beginKind r x1 w2 x3 = (r_3.1, r_3.2) := by
    delta fX1_beginKind
    try dsimp only
    rw [← er_3]
  have hg : fX1_beginKind r x1 w2 x3 = (r_3.1, r_3.2) := by have e2 := congrArg (fun z => z) e_4; exact hg.trans e2
  exact eE_z hC (by rw [hg]) (nb01 (by rw [er_3]; apply Z_X1_beginWord)) (by show PW G (rrW G a (fX1_beginKind r x1 w2 x3).1) H; rw [hg]; exact hP) hS dX1_beginKind_11

theorem dX1_beginPaper_0 : decode cX1_beginPaper 0 = .ok (.aload_n 0, 1) := by decide +kernel
theorem dX1_beginPaper_1 : decode cX1_beginPaper 1 = .ok (.iload_n 1, 1) := by decide +kernel
theorem dX1_beginPaper_2 : decode cX1_beginPaper 2 = .ok (.putfield 36, 3) := by decide +kernel
theorem dX1_beginPaper_5 : decode cX1_beginPaper 5 = .ok (.aload_n 0, 1) := by decide +kernel
theorem dX1_beginPaper_6 : decode cX1_beginPaper 6 = .ok (.aload_n 2, 1) := by decide +kernel
theorem dX1_beginPaper_7 : decode cX1_beginPaper 7 = .ok (.iconst 5, 1) := by decide +kernel
theorem dX1_beginPaper_8 : decode cX1_beginPaper 8 = .ok (.invokevirtual 105, 3) := by decide +kernel
theorem dX1_beginPaper_11 : decode cX1_beginPaper 11 = .ok (.ireturn, 1) := by decide +kernel
set_option maxHeartbeats 1000000 in
set_option maxRecDepth 100000 in
theorem c_X1_beginPaper (l : Launch) (G : GT) (a : Nat) (r : Nat → Int32) (x1 : Int32) (w2 : Nat) (hlow : gL G ≤ a) (hw : w2 < 8) : Met l yX1_beginPaper (Cond.code yX1_beginPaper cX1_beginPaper 3 (some .boolean) :: bigW) ({ frames := 1, cells := 0, slots := 0, locals := 22 }) (BP G [.ref a, .int x1, .ref (gA G (10 + w2))] (fun U H => PW G (rrW G a r) H)) (QE (some (.int (fX1_beginPaper r x1 w2).2)) (fun H => PW G (rrW G a (fX1_beginPaper r x1 w2).1) H) (fun z => z = a)) 0 0 (fun z => z = a) := by
  refine met_of (by decide) (Nat.le_of_ble_eq_true rfl) ?_
  intro p e s m below meth c ls hC hKN hB0 hl
  have hP := hB0
  have hl : lv_has ls 3 [(0, .ref a), (1, .int x1), (2, .ref (gA G (10 + w2)))] := hl
  have hS : va_S (fun z => z = a) s.heap s.heap [] := va_S.rf
  have hAL : ∀ z, (fun z => z = a) z → gL G ≤ z := fun z h => by have h : z = a := h; rw [h]; exact hlow
  have hg : fX1_beginPaper r x1 w2 = fX1_beginPaper r x1 w2 := rfl
  refine lv_aload_n hC.1 hC.2.1 dX1_beginPaper_0 rfl (lv_at hl 0 rfl) ?_
  refine lv_iload_n hC.1 hC.2.1 dX1_beginPaper_1 rfl (lv_at hl 1 rfl) ?_
  refine pf (v := .int x1) (tv := .int) hC fwX1 hKN hP (rrW_D r) hS 0 rfl rfl 7 (by decide) rfl wd_176 rfl rfl rfl (Nat.le_of_ble_eq_true rfl) dX1_beginPaper_2 (fun H locs hq_1 hS => ?_)
  have hP : PW G (rrW G a (mkR (r 0) (r 1) (r 2) (r 3) (r 4) (r 5) (r 6) x1 (r 8) (r 9))) H := hq_1
  refine lv_aload_n hC.1 hC.2.1 dX1_beginPaper_5 rfl (lv_at hl 0 rfl) ?_
  refine lv_aload_n hC.1 hC.2.1 dX1_beginPaper_6 rfl (lv_at hl 2 rfl) ?_
  refine lv_iconst (v := 5) hC.1 hC.2.1 dX1_beginPaper_7 (by decide) ?_
  refine runE (rV (B := fun U H => PW G (rrW G a (mkR (r 0) (r 1) (r 2) (r 3) (r 4) (r 5) (r 6) x1 (r 8) (r 9))) H) (As := [.ref (gA G (10 + w2)), .int 5]) (rest := []) hC mwX1_beginWord (c_X1_beginWord l G a (mkR (r 0) (r 1) (r 2) (r 3) (r 4) (r 5) (r 6) x1 (r 8) (r 9)) w2 5 hlow hw) iwX1_beginWord wd_272 ⟨rfl, rfl⟩ ⟨Nat.le_of_ble_eq_true rfl, Nat.le_of_ble_eq_true rfl⟩ (stb_h (fun H => PW G (rrW G a (mkR (r 0) (r 1) (r 2) (r 3) (r 4) (r 5) (r 6) x1 (r 8) (r 9))) H)) (hKN.go hAL hS) hP (va_recv (hKN.go hAL hS).k hP (ci := 1) (q0 := 0) rfl rfl) rfl hl.1 rfl (Nat.le_of_ble_eq_true rfl) dX1_beginPaper_8 ⟨Nat.zero_le _, Nat.zero_le _⟩) hS (fun _ h => h) (fun _ h => h) (fun H locs hq_2 _ _ hS => ?_)
  have hP : PW G (rrW G a ((fX1_beginWord (mkR (r 0) (r 1) (r 2) (r 3) (r 4) (r 5) (r 6) x1 (r 8) (r 9)) w2 5).1)) H := hq_2
  obtain ⟨r_3, er_3⟩ : ∃ z, z = fX1_beginWord (mkR (r 0) (r 1) (r 2) (r 3) (r 4) (r 5) (r 6) x1 (r 8) (r 9)) w2 5 := ⟨_, rfl⟩
  rw [← er_3] at hP
  show W p l e ({ frames := 1, cells := 0, slots := 0, locals := 22 }) s m ([.ref a, .int x1, .ref (gA G (10 + w2))] : List Value).toArray below meth c H locs (0 + 0) (0 + 0) _ (F0 m (8 + 3) ls [.int ((fX1_beginWord (mkR (r 0) (r 1) (r 2) (r 3) (r 4) (r 5) (r 6) x1 (r 8) (r 9)) w2 5).2)])
  rw [← er_3]
  have e_4 : fX1_beginPaper r x1 w2 = (r_3.1, r_3.2) := by
    delta fX1_beginPaper
    try dsimp only
    rw [← er_3]
  have hg : fX1_beginPaper r x1 w2 = (r_3.1, r_3.2) := by have e2 := congrArg (fun z => z) e_4; exact hg.trans e2
  exact eE_z hC (by rw [hg]) (nb01 (by rw [er_3]; apply Z_X1_beginWord)) (by show PW G (rrW G a (fX1_beginPaper r x1 w2).1) H; rw [hg]; exact hP) hS dX1_beginPaper_11

theorem dX1_takeFirst_0 : decode cX1_takeFirst 0 = .ok (.iload_n 1, 1) := by decide +kernel
theorem dX1_takeFirst_1 : decode cX1_takeFirst 1 = .ok (.lookupswitch 86 #[(101, 77), (108, 43), (112, 52), (114, 61)], 43) := by decide +kernel
theorem dX1_takeFirst_44 : decode cX1_takeFirst 44 = .ok (.aload_n 0, 1) := by decide +kernel
theorem dX1_takeFirst_45 : decode cX1_takeFirst 45 = .ok (.iconst 1, 1) := by decide +kernel
theorem dX1_takeFirst_46 : decode cX1_takeFirst 46 = .ok (.ldc 83, 2) := by decide +kernel
theorem dX1_takeFirst_48 : decode cX1_takeFirst 48 = .ok (.iconst 2, 1) := by decide +kernel
theorem dX1_takeFirst_49 : decode cX1_takeFirst 49 = .ok (.invokevirtual 85, 3) := by decide +kernel
theorem dX1_takeFirst_52 : decode cX1_takeFirst 52 = .ok (.ireturn, 1) := by decide +kernel
theorem dX1_takeFirst_53 : decode cX1_takeFirst 53 = .ok (.aload_n 0, 1) := by decide +kernel
theorem dX1_takeFirst_54 : decode cX1_takeFirst 54 = .ok (.iconst 2, 1) := by decide +kernel
theorem dX1_takeFirst_55 : decode cX1_takeFirst 55 = .ok (.ldc 89, 2) := by decide +kernel
theorem dX1_takeFirst_57 : decode cX1_takeFirst 57 = .ok (.iconst 3, 1) := by decide +kernel
theorem dX1_takeFirst_58 : decode cX1_takeFirst 58 = .ok (.invokevirtual 85, 3) := by decide +kernel
theorem dX1_takeFirst_61 : decode cX1_takeFirst 61 = .ok (.ireturn, 1) := by decide +kernel
theorem dX1_takeFirst_62 : decode cX1_takeFirst 62 = .ok (.aload_n 0, 1) := by decide +kernel
theorem dX1_takeFirst_63 : decode cX1_takeFirst 63 = .ok (.sipush 999, 3) := by decide +kernel
theorem dX1_takeFirst_66 : decode cX1_takeFirst 66 = .ok (.putfield 42, 3) := by decide +kernel
theorem dX1_takeFirst_69 : decode cX1_takeFirst 69 = .ok (.aload_n 0, 1) := by decide +kernel
theorem dX1_takeFirst_70 : decode cX1_takeFirst 70 = .ok (.iconst 3, 1) := by decide +kernel
theorem dX1_takeFirst_71 : decode cX1_takeFirst 71 = .ok (.ldc 91, 2) := by decide +kernel
theorem dX1_takeFirst_73 : decode cX1_takeFirst 73 = .ok (.iconst 4, 1) := by decide +kernel
theorem dX1_takeFirst_74 : decode cX1_takeFirst 74 = .ok (.invokevirtual 85, 3) := by decide +kernel
theorem dX1_takeFirst_77 : decode cX1_takeFirst 77 = .ok (.ireturn, 1) := by decide +kernel
theorem dX1_takeFirst_78 : decode cX1_takeFirst 78 = .ok (.aload_n 0, 1) := by decide +kernel
theorem dX1_takeFirst_79 : decode cX1_takeFirst 79 = .ok (.iconst 4, 1) := by decide +kernel
theorem dX1_takeFirst_80 : decode cX1_takeFirst 80 = .ok (.ldc 93, 2) := by decide +kernel
theorem dX1_takeFirst_82 : decode cX1_takeFirst 82 = .ok (.iconst 5, 1) := by decide +kernel
theorem dX1_takeFirst_83 : decode cX1_takeFirst 83 = .ok (.invokevirtual 85, 3) := by decide +kernel
theorem dX1_takeFirst_86 : decode cX1_takeFirst 86 = .ok (.ireturn, 1) := by decide +kernel
theorem dX1_takeFirst_87 : decode cX1_takeFirst 87 = .ok (.iconst 0, 1) := by decide +kernel
theorem dX1_takeFirst_88 : decode cX1_takeFirst 88 = .ok (.ireturn, 1) := by decide +kernel
set_option maxHeartbeats 1000000 in
set_option maxRecDepth 100000 in
theorem c_X1_takeFirst (l : Launch) (G : GT) (a : Nat) (r : Nat → Int32) (x1 : Int32) (hlow : gL G ≤ a) : Met l yX1_takeFirst (Cond.code yX1_takeFirst cX1_takeFirst 2 (some .boolean) :: bigW) ({ frames := 2, cells := 0, slots := 0, locals := 45 }) (BP G [.ref a, .int x1] (fun U H => PW G (rrW G a r) H)) (QE (some (.int (fX1_takeFirst r x1).2)) (fun H => PW G (rrW G a (fX1_takeFirst r x1).1) H) (fun z => z = a)) 0 0 (fun z => z = a) := by
  refine met_of (by decide) (Nat.le_of_ble_eq_true rfl) ?_
  intro p e s m below meth c ls hC hKN hB0 hl
  have hP := hB0
  have hl : lv_has ls 2 [(0, .ref a), (1, .int x1)] := hl
  have hS : va_S (fun z => z = a) s.heap s.heap [] := va_S.rf
  have hAL : ∀ z, (fun z => z = a) z → gL G ≤ z := fun z h => by have h : z = a := h; rw [h]; exact hlow
  have hg : fX1_takeFirst r x1 = fX1_takeFirst r x1 := rfl
  refine lv_iload_n hC.1 hC.2.1 dX1_takeFirst_0 rfl (lv_at hl 1 rfl) ?_
  by_cases k1_101 : x1 = 101
  · refine lkIn hC (tgt := 78) (off := 77) 101 k1_101 dX1_takeFirst_1 (by decide) (by decide) (by decide) ?_
    refine lv_aload_n hC.1 hC.2.1 dX1_takeFirst_78 rfl (lv_at hl 0 rfl) ?_
    refine lv_iconst (v := 4) hC.1 hC.2.1 dX1_takeFirst_79 (by decide) ?_
    refine va_ldcS hC.1 hC.2.1 hC.2.2.2.2.1 (hKN.str 4 (by decide)) dX1_takeFirst_80 ?_
    refine lv_iconst (v := 5) hC.1 hC.2.1 dX1_takeFirst_82 (by decide) ?_
    refine runE (rV (B := fun U H => PW G (rrW G a r) H) (As := [.int 4, .ref (gA G (10 + 4)), .int 5]) (rest := []) hC mwX1_beginKind (c_X1_beginKind l G a r 4 4 5 hlow (by decide)) iwX1_beginKind wd_268 ⟨rfl, rfl⟩ ⟨Nat.le_of_ble_eq_true rfl, Nat.le_of_ble_eq_true rfl⟩ (stb_h (fun H => PW G (rrW G a r) H)) hKN hP (va_recv hKN.k hP (ci := 1) (q0 := 0) rfl rfl) rfl hl.1 rfl (Nat.le_of_ble_eq_true rfl) dX1_takeFirst_83 ⟨Nat.zero_le _, Nat.zero_le _⟩) hS (fun _ h => h) (fun _ h => h) (fun H locs hq_1 _ _ hS => ?_)
    have hP : PW G (rrW G a ((fX1_beginKind r 4 4 5).1)) H := hq_1
    obtain ⟨r_2, er_2⟩ : ∃ z, z = fX1_beginKind r 4 4 5 := ⟨_, rfl⟩
    rw [← er_2] at hP
    show W p l e ({ frames := 2, cells := 0, slots := 0, locals := 45 }) s m ([.ref a, .int x1] : List Value).toArray below meth c H locs (0 + 0) (0 + 0) _ (F0 m (83 + 3) ls [.int ((fX1_beginKind r 4 4 5).2)])
    rw [← er_2]
    have e_3 : fX1_takeFirst r x1 = (r_2.1, r_2.2) := by
      delta fX1_takeFirst
      try dsimp only
      rw [← er_2]
      exact Eq.trans (if_pos k1_101) rfl
    have hg : fX1_takeFirst r x1 = (r_2.1, r_2.2) := by have e2 := congrArg (fun z => z) e_3; exact hg.trans e2
    exact eE_z hC (by rw [hg]) (nb01 (by rw [er_2]; apply Z_X1_beginKind)) (by show PW G (rrW G a (fX1_takeFirst r x1).1) H; rw [hg]; exact hP) hS dX1_takeFirst_86
  · skip
    by_cases k1_108 : x1 = 108
    · refine lkIn hC (tgt := 44) (off := 43) 108 k1_108 dX1_takeFirst_1 (by decide) (by decide) (by decide) ?_
      refine lv_aload_n hC.1 hC.2.1 dX1_takeFirst_44 rfl (lv_at hl 0 rfl) ?_
      refine lv_iconst (v := 1) hC.1 hC.2.1 dX1_takeFirst_45 (by decide) ?_
      refine va_ldcS hC.1 hC.2.1 hC.2.2.2.2.1 (hKN.str 1 (by decide)) dX1_takeFirst_46 ?_
      refine lv_iconst (v := 2) hC.1 hC.2.1 dX1_takeFirst_48 (by decide) ?_
      refine runE (rV (B := fun U H => PW G (rrW G a r) H) (As := [.int 1, .ref (gA G (10 + 1)), .int 2]) (rest := []) hC mwX1_beginKind (c_X1_beginKind l G a r 1 1 2 hlow (by decide)) iwX1_beginKind wd_268 ⟨rfl, rfl⟩ ⟨Nat.le_of_ble_eq_true rfl, Nat.le_of_ble_eq_true rfl⟩ (stb_h (fun H => PW G (rrW G a r) H)) hKN hP (va_recv hKN.k hP (ci := 1) (q0 := 0) rfl rfl) rfl hl.1 rfl (Nat.le_of_ble_eq_true rfl) dX1_takeFirst_49 ⟨Nat.zero_le _, Nat.zero_le _⟩) hS (fun _ h => h) (fun _ h => h) (fun H locs hq_4 _ _ hS => ?_)
      have hP : PW G (rrW G a ((fX1_beginKind r 1 1 2).1)) H := hq_4
      obtain ⟨r_5, er_5⟩ : ∃ z, z = fX1_beginKind r 1 1 2 := ⟨_, rfl⟩
      rw [← er_5] at hP
      show W p l e ({ frames := 2, cells := 0, slots := 0, locals := 45 }) s m ([.ref a, .int x1] : List Value).toArray below meth c H locs (0 + 0) (0 + 0) _ (F0 m (49 + 3) ls [.int ((fX1_beginKind r 1 1 2).2)])
      rw [← er_5]
      have e_6 : fX1_takeFirst r x1 = (r_5.1, r_5.2) := by
        delta fX1_takeFirst
        try dsimp only
        rw [← er_5]
        exact Eq.trans (if_neg k1_101) (Eq.trans (if_pos k1_108) rfl)
      have hg : fX1_takeFirst r x1 = (r_5.1, r_5.2) := by have e2 := congrArg (fun z => z) e_6; exact hg.trans e2
      exact eE_z hC (by rw [hg]) (nb01 (by rw [er_5]; apply Z_X1_beginKind)) (by show PW G (rrW G a (fX1_takeFirst r x1).1) H; rw [hg]; exact hP) hS dX1_takeFirst_52
    · skip
      by_cases k1_112 : x1 = 112
      · refine lkIn hC (tgt := 53) (off := 52) 112 k1_112 dX1_takeFirst_1 (by decide) (by decide) (by decide) ?_
        refine lv_aload_n hC.1 hC.2.1 dX1_takeFirst_53 rfl (lv_at hl 0 rfl) ?_
        refine lv_iconst (v := 2) hC.1 hC.2.1 dX1_takeFirst_54 (by decide) ?_
        refine va_ldcS hC.1 hC.2.1 hC.2.2.2.2.1 (hKN.str 2 (by decide)) dX1_takeFirst_55 ?_
        refine lv_iconst (v := 3) hC.1 hC.2.1 dX1_takeFirst_57 (by decide) ?_
        refine runE (rV (B := fun U H => PW G (rrW G a r) H) (As := [.int 2, .ref (gA G (10 + 2)), .int 3]) (rest := []) hC mwX1_beginKind (c_X1_beginKind l G a r 2 2 3 hlow (by decide)) iwX1_beginKind wd_268 ⟨rfl, rfl⟩ ⟨Nat.le_of_ble_eq_true rfl, Nat.le_of_ble_eq_true rfl⟩ (stb_h (fun H => PW G (rrW G a r) H)) hKN hP (va_recv hKN.k hP (ci := 1) (q0 := 0) rfl rfl) rfl hl.1 rfl (Nat.le_of_ble_eq_true rfl) dX1_takeFirst_58 ⟨Nat.zero_le _, Nat.zero_le _⟩) hS (fun _ h => h) (fun _ h => h) (fun H locs hq_7 _ _ hS => ?_)
        have hP : PW G (rrW G a ((fX1_beginKind r 2 2 3).1)) H := hq_7
        obtain ⟨r_8, er_8⟩ : ∃ z, z = fX1_beginKind r 2 2 3 := ⟨_, rfl⟩
        rw [← er_8] at hP
        show W p l e ({ frames := 2, cells := 0, slots := 0, locals := 45 }) s m ([.ref a, .int x1] : List Value).toArray below meth c H locs (0 + 0) (0 + 0) _ (F0 m (58 + 3) ls [.int ((fX1_beginKind r 2 2 3).2)])
        rw [← er_8]
        have e_9 : fX1_takeFirst r x1 = (r_8.1, r_8.2) := by
          delta fX1_takeFirst
          try dsimp only
          rw [← er_8]
          exact Eq.trans (if_neg k1_101) (Eq.trans (if_neg k1_108) (Eq.trans (if_pos k1_112) rfl))
        have hg : fX1_takeFirst r x1 = (r_8.1, r_8.2) := by have e2 := congrArg (fun z => z) e_9; exact hg.trans e2
        exact eE_z hC (by rw [hg]) (nb01 (by rw [er_8]; apply Z_X1_beginKind)) (by show PW G (rrW G a (fX1_takeFirst r x1).1) H; rw [hg]; exact hP) hS dX1_takeFirst_61
      · skip
        by_cases k1_114 : x1 = 114
        · refine lkIn hC (tgt := 62) (off := 61) 114 k1_114 dX1_takeFirst_1 (by decide) (by decide) (by decide) ?_
          refine lv_aload_n hC.1 hC.2.1 dX1_takeFirst_62 rfl (lv_at hl 0 rfl) ?_
          refine lv_sipush (v := 999) hC.1 hC.2.1 dX1_takeFirst_63 (by decide +kernel) ?_
          refine pf (v := .int 999) (tv := .int) hC fwX1 hKN hP (rrW_D r) hS 0 rfl rfl 9 (by decide) rfl wd_180 rfl rfl rfl (Nat.le_of_ble_eq_true rfl) dX1_takeFirst_66 (fun H locs hq_10 hS => ?_)
          have hP : PW G (rrW G a (mkR (r 0) (r 1) (r 2) (r 3) (r 4) (r 5) (r 6) (r 7) (r 8) 999)) H := hq_10
          refine lv_aload_n hC.1 hC.2.1 dX1_takeFirst_69 rfl (lv_at hl 0 rfl) ?_
          refine lv_iconst (v := 3) hC.1 hC.2.1 dX1_takeFirst_70 (by decide) ?_
          refine va_ldcS hC.1 hC.2.1 hC.2.2.2.2.1 ((hKN.go hAL hS).str 3 (by decide)) dX1_takeFirst_71 ?_
          refine lv_iconst (v := 4) hC.1 hC.2.1 dX1_takeFirst_73 (by decide) ?_
          refine runE (rV (B := fun U H => PW G (rrW G a (mkR (r 0) (r 1) (r 2) (r 3) (r 4) (r 5) (r 6) (r 7) (r 8) 999)) H) (As := [.int 3, .ref (gA G (10 + 3)), .int 4]) (rest := []) hC mwX1_beginKind (c_X1_beginKind l G a (mkR (r 0) (r 1) (r 2) (r 3) (r 4) (r 5) (r 6) (r 7) (r 8) 999) 3 3 4 hlow (by decide)) iwX1_beginKind wd_268 ⟨rfl, rfl⟩ ⟨Nat.le_of_ble_eq_true rfl, Nat.le_of_ble_eq_true rfl⟩ (stb_h (fun H => PW G (rrW G a (mkR (r 0) (r 1) (r 2) (r 3) (r 4) (r 5) (r 6) (r 7) (r 8) 999)) H)) (hKN.go hAL hS) hP (va_recv (hKN.go hAL hS).k hP (ci := 1) (q0 := 0) rfl rfl) rfl hl.1 rfl (Nat.le_of_ble_eq_true rfl) dX1_takeFirst_74 ⟨Nat.zero_le _, Nat.zero_le _⟩) hS (fun _ h => h) (fun _ h => h) (fun H locs hq_11 _ _ hS => ?_)
          have hP : PW G (rrW G a ((fX1_beginKind (mkR (r 0) (r 1) (r 2) (r 3) (r 4) (r 5) (r 6) (r 7) (r 8) 999) 3 3 4).1)) H := hq_11
          obtain ⟨r_12, er_12⟩ : ∃ z, z = fX1_beginKind (mkR (r 0) (r 1) (r 2) (r 3) (r 4) (r 5) (r 6) (r 7) (r 8) 999) 3 3 4 := ⟨_, rfl⟩
          rw [← er_12] at hP
          show W p l e ({ frames := 2, cells := 0, slots := 0, locals := 45 }) s m ([.ref a, .int x1] : List Value).toArray below meth c H locs (0 + 0) (0 + 0) _ (F0 m (74 + 3) ls [.int ((fX1_beginKind (mkR (r 0) (r 1) (r 2) (r 3) (r 4) (r 5) (r 6) (r 7) (r 8) 999) 3 3 4).2)])
          rw [← er_12]
          have e_13 : fX1_takeFirst r x1 = (r_12.1, r_12.2) := by
            delta fX1_takeFirst
            try dsimp only
            rw [← er_12]
            exact Eq.trans (if_neg k1_101) (Eq.trans (if_neg k1_108) (Eq.trans (if_neg k1_112) (Eq.trans (if_pos k1_114) rfl)))
          have hg : fX1_takeFirst r x1 = (r_12.1, r_12.2) := by have e2 := congrArg (fun z => z) e_13; exact hg.trans e2
          exact eE_z hC (by rw [hg]) (nb01 (by rw [er_12]; apply Z_X1_beginKind)) (by show PW G (rrW G a (fX1_takeFirst r x1).1) H; rw [hg]; exact hP) hS dX1_takeFirst_77
        · skip
          have z1_101 : ¬ x1.toInt = 101 := ne_toInt k1_101
          have z1_108 : ¬ x1.toInt = 108 := ne_toInt k1_108
          have z1_112 : ¬ x1.toInt = 112 := ne_toInt k1_112
          have z1_114 : ¬ x1.toInt = 114 := ne_toInt k1_114
          refine lv_lookup (tgt := 87) hC.1 hC.2.1 dX1_takeFirst_1 (by decide) (off := 86) (by simp [Op.lookupswitch.offset, z1_101, Ne.symm z1_101, z1_108, Ne.symm z1_108, z1_112, Ne.symm z1_112, z1_114, Ne.symm z1_114]) (by decide) ?_
          refine lv_iconst (v := 0) hC.1 hC.2.1 dX1_takeFirst_87 (by decide) ?_
          have e_14 : fX1_takeFirst r x1 = (r, 0) := by
            delta fX1_takeFirst
            try dsimp only
            exact Eq.trans (if_neg k1_101) (Eq.trans (if_neg k1_108) (Eq.trans (if_neg k1_112) (Eq.trans (if_neg k1_114) rfl)))
          have hg : fX1_takeFirst r x1 = (r, 0) := by have e2 := congrArg (fun z => z) e_14; exact hg.trans e2
          exact eE_z hC (by rw [hg]) rfl (by show PW G (rrW G a (fX1_takeFirst r x1).1) s.heap; rw [hg]; exact hP) hS dX1_takeFirst_88

theorem dX1_takeFirstOfPaper_0 : decode cX1_takeFirstOfPaper 0 = .ok (.iload_n 1, 1) := by decide +kernel
theorem dX1_takeFirstOfPaper_1 : decode cX1_takeFirstOfPaper 1 = .ok (.lookupswitch 59 #[(102, 43), (108, 51), (112, 35)], 35) := by decide +kernel
theorem dX1_takeFirstOfPaper_36 : decode cX1_takeFirstOfPaper 36 = .ok (.aload_n 0, 1) := by decide +kernel
theorem dX1_takeFirstOfPaper_37 : decode cX1_takeFirstOfPaper 37 = .ok (.iconst 0, 1) := by decide +kernel
theorem dX1_takeFirstOfPaper_38 : decode cX1_takeFirstOfPaper 38 = .ok (.ldc 95, 2) := by decide +kernel
theorem dX1_takeFirstOfPaper_40 : decode cX1_takeFirstOfPaper 40 = .ok (.invokevirtual 97, 3) := by decide +kernel
theorem dX1_takeFirstOfPaper_43 : decode cX1_takeFirstOfPaper 43 = .ok (.ireturn, 1) := by decide +kernel
theorem dX1_takeFirstOfPaper_44 : decode cX1_takeFirstOfPaper 44 = .ok (.aload_n 0, 1) := by decide +kernel
theorem dX1_takeFirstOfPaper_45 : decode cX1_takeFirstOfPaper 45 = .ok (.iconst 1, 1) := by decide +kernel
theorem dX1_takeFirstOfPaper_46 : decode cX1_takeFirstOfPaper 46 = .ok (.ldc 101, 2) := by decide +kernel
theorem dX1_takeFirstOfPaper_48 : decode cX1_takeFirstOfPaper 48 = .ok (.invokevirtual 97, 3) := by decide +kernel
theorem dX1_takeFirstOfPaper_51 : decode cX1_takeFirstOfPaper 51 = .ok (.ireturn, 1) := by decide +kernel
theorem dX1_takeFirstOfPaper_52 : decode cX1_takeFirstOfPaper 52 = .ok (.aload_n 0, 1) := by decide +kernel
theorem dX1_takeFirstOfPaper_53 : decode cX1_takeFirstOfPaper 53 = .ok (.iconst 2, 1) := by decide +kernel
theorem dX1_takeFirstOfPaper_54 : decode cX1_takeFirstOfPaper 54 = .ok (.ldc 103, 2) := by decide +kernel
theorem dX1_takeFirstOfPaper_56 : decode cX1_takeFirstOfPaper 56 = .ok (.invokevirtual 97, 3) := by decide +kernel
theorem dX1_takeFirstOfPaper_59 : decode cX1_takeFirstOfPaper 59 = .ok (.ireturn, 1) := by decide +kernel
theorem dX1_takeFirstOfPaper_60 : decode cX1_takeFirstOfPaper 60 = .ok (.iconst 0, 1) := by decide +kernel
theorem dX1_takeFirstOfPaper_61 : decode cX1_takeFirstOfPaper 61 = .ok (.ireturn, 1) := by decide +kernel
set_option maxHeartbeats 1000000 in
set_option maxRecDepth 100000 in
theorem c_X1_takeFirstOfPaper (l : Launch) (G : GT) (a : Nat) (r : Nat → Int32) (x1 : Int32) (hlow : gL G ≤ a) : Met l yX1_takeFirstOfPaper (Cond.code yX1_takeFirstOfPaper cX1_takeFirstOfPaper 2 (some .boolean) :: bigW) ({ frames := 2, cells := 0, slots := 0, locals := 44 }) (BP G [.ref a, .int x1] (fun U H => PW G (rrW G a r) H)) (QE (some (.int (fX1_takeFirstOfPaper r x1).2)) (fun H => PW G (rrW G a (fX1_takeFirstOfPaper r x1).1) H) (fun z => z = a)) 0 0 (fun z => z = a) := by
  refine met_of (by decide) (Nat.le_of_ble_eq_true rfl) ?_
  intro p e s m below meth c ls hC hKN hB0 hl
  have hP := hB0
  have hl : lv_has ls 2 [(0, .ref a), (1, .int x1)] := hl
  have hS : va_S (fun z => z = a) s.heap s.heap [] := va_S.rf
  have hAL : ∀ z, (fun z => z = a) z → gL G ≤ z := fun z h => by have h : z = a := h; rw [h]; exact hlow
  have hg : fX1_takeFirstOfPaper r x1 = fX1_takeFirstOfPaper r x1 := rfl
  refine lv_iload_n hC.1 hC.2.1 dX1_takeFirstOfPaper_0 rfl (lv_at hl 1 rfl) ?_
  by_cases k1_102 : x1 = 102
  · refine lkIn hC (tgt := 44) (off := 43) 102 k1_102 dX1_takeFirstOfPaper_1 (by decide) (by decide) (by decide) ?_
    refine lv_aload_n hC.1 hC.2.1 dX1_takeFirstOfPaper_44 rfl (lv_at hl 0 rfl) ?_
    refine lv_iconst (v := 1) hC.1 hC.2.1 dX1_takeFirstOfPaper_45 (by decide) ?_
    refine va_ldcS hC.1 hC.2.1 hC.2.2.2.2.1 (hKN.str 6 (by decide)) dX1_takeFirstOfPaper_46 ?_
    refine runE (rV (B := fun U H => PW G (rrW G a r) H) (As := [.int 1, .ref (gA G (10 + 6))]) (rest := []) hC mwX1_beginPaper (c_X1_beginPaper l G a r 1 6 hlow (by decide)) iwX1_beginPaper wd_350 ⟨rfl, rfl⟩ ⟨Nat.le_of_ble_eq_true rfl, Nat.le_of_ble_eq_true rfl⟩ (stb_h (fun H => PW G (rrW G a r) H)) hKN hP (va_recv hKN.k hP (ci := 1) (q0 := 0) rfl rfl) rfl hl.1 rfl (Nat.le_of_ble_eq_true rfl) dX1_takeFirstOfPaper_48 ⟨Nat.zero_le _, Nat.zero_le _⟩) hS (fun _ h => h) (fun _ h => h) (fun H locs hq_1 _ _ hS => ?_)
    have hP : PW G (rrW G a ((fX1_beginPaper r 1 6).1)) H := hq_1
    obtain ⟨r_2, er_2⟩ : ∃ z, z = fX1_beginPaper r 1 6 := ⟨_, rfl⟩
    rw [← er_2] at hP
    show W p l e ({ frames := 2, cells := 0, slots := 0, locals := 44 }) s m ([.ref a, .int x1] : List Value).toArray below meth c H locs (0 + 0) (0 + 0) _ (F0 m (48 + 3) ls [.int ((fX1_beginPaper r 1 6).2)])
    rw [← er_2]
    have e_3 : fX1_takeFirstOfPaper r x1 = (r_2.1, r_2.2) := by
      delta fX1_takeFirstOfPaper
      try dsimp only
      rw [← er_2]
      exact Eq.trans (if_pos k1_102) rfl
    have hg : fX1_takeFirstOfPaper r x1 = (r_2.1, r_2.2) := by have e2 := congrArg (fun z => z) e_3; exact hg.trans e2
    exact eE_z hC (by rw [hg]) (nb01 (by rw [er_2]; apply Z_X1_beginPaper)) (by show PW G (rrW G a (fX1_takeFirstOfPaper r x1).1) H; rw [hg]; exact hP) hS dX1_takeFirstOfPaper_51
  · skip
    by_cases k1_108 : x1 = 108
    · refine lkIn hC (tgt := 52) (off := 51) 108 k1_108 dX1_takeFirstOfPaper_1 (by decide) (by decide) (by decide) ?_
      refine lv_aload_n hC.1 hC.2.1 dX1_takeFirstOfPaper_52 rfl (lv_at hl 0 rfl) ?_
      refine lv_iconst (v := 2) hC.1 hC.2.1 dX1_takeFirstOfPaper_53 (by decide) ?_
      refine va_ldcS hC.1 hC.2.1 hC.2.2.2.2.1 (hKN.str 7 (by decide)) dX1_takeFirstOfPaper_54 ?_
      refine runE (rV (B := fun U H => PW G (rrW G a r) H) (As := [.int 2, .ref (gA G (10 + 7))]) (rest := []) hC mwX1_beginPaper (c_X1_beginPaper l G a r 2 7 hlow (by decide)) iwX1_beginPaper wd_350 ⟨rfl, rfl⟩ ⟨Nat.le_of_ble_eq_true rfl, Nat.le_of_ble_eq_true rfl⟩ (stb_h (fun H => PW G (rrW G a r) H)) hKN hP (va_recv hKN.k hP (ci := 1) (q0 := 0) rfl rfl) rfl hl.1 rfl (Nat.le_of_ble_eq_true rfl) dX1_takeFirstOfPaper_56 ⟨Nat.zero_le _, Nat.zero_le _⟩) hS (fun _ h => h) (fun _ h => h) (fun H locs hq_4 _ _ hS => ?_)
      have hP : PW G (rrW G a ((fX1_beginPaper r 2 7).1)) H := hq_4
      obtain ⟨r_5, er_5⟩ : ∃ z, z = fX1_beginPaper r 2 7 := ⟨_, rfl⟩
      rw [← er_5] at hP
      show W p l e ({ frames := 2, cells := 0, slots := 0, locals := 44 }) s m ([.ref a, .int x1] : List Value).toArray below meth c H locs (0 + 0) (0 + 0) _ (F0 m (56 + 3) ls [.int ((fX1_beginPaper r 2 7).2)])
      rw [← er_5]
      have e_6 : fX1_takeFirstOfPaper r x1 = (r_5.1, r_5.2) := by
        delta fX1_takeFirstOfPaper
        try dsimp only
        rw [← er_5]
        exact Eq.trans (if_neg k1_102) (Eq.trans (if_pos k1_108) rfl)
      have hg : fX1_takeFirstOfPaper r x1 = (r_5.1, r_5.2) := by have e2 := congrArg (fun z => z) e_6; exact hg.trans e2
      exact eE_z hC (by rw [hg]) (nb01 (by rw [er_5]; apply Z_X1_beginPaper)) (by show PW G (rrW G a (fX1_takeFirstOfPaper r x1).1) H; rw [hg]; exact hP) hS dX1_takeFirstOfPaper_59
    · skip
      by_cases k1_112 : x1 = 112
      · refine lkIn hC (tgt := 36) (off := 35) 112 k1_112 dX1_takeFirstOfPaper_1 (by decide) (by decide) (by decide) ?_
        refine lv_aload_n hC.1 hC.2.1 dX1_takeFirstOfPaper_36 rfl (lv_at hl 0 rfl) ?_
        refine lv_iconst (v := 0) hC.1 hC.2.1 dX1_takeFirstOfPaper_37 (by decide) ?_
        refine va_ldcS hC.1 hC.2.1 hC.2.2.2.2.1 (hKN.str 5 (by decide)) dX1_takeFirstOfPaper_38 ?_
        refine runE (rV (B := fun U H => PW G (rrW G a r) H) (As := [.int 0, .ref (gA G (10 + 5))]) (rest := []) hC mwX1_beginPaper (c_X1_beginPaper l G a r 0 5 hlow (by decide)) iwX1_beginPaper wd_350 ⟨rfl, rfl⟩ ⟨Nat.le_of_ble_eq_true rfl, Nat.le_of_ble_eq_true rfl⟩ (stb_h (fun H => PW G (rrW G a r) H)) hKN hP (va_recv hKN.k hP (ci := 1) (q0 := 0) rfl rfl) rfl hl.1 rfl (Nat.le_of_ble_eq_true rfl) dX1_takeFirstOfPaper_40 ⟨Nat.zero_le _, Nat.zero_le _⟩) hS (fun _ h => h) (fun _ h => h) (fun H locs hq_7 _ _ hS => ?_)
        have hP : PW G (rrW G a ((fX1_beginPaper r 0 5).1)) H := hq_7
        obtain ⟨r_8, er_8⟩ : ∃ z, z = fX1_beginPaper r 0 5 := ⟨_, rfl⟩
        rw [← er_8] at hP
        show W p l e ({ frames := 2, cells := 0, slots := 0, locals := 44 }) s m ([.ref a, .int x1] : List Value).toArray below meth c H locs (0 + 0) (0 + 0) _ (F0 m (40 + 3) ls [.int ((fX1_beginPaper r 0 5).2)])
        rw [← er_8]
        have e_9 : fX1_takeFirstOfPaper r x1 = (r_8.1, r_8.2) := by
          delta fX1_takeFirstOfPaper
          try dsimp only
          rw [← er_8]
          exact Eq.trans (if_neg k1_102) (Eq.trans (if_neg k1_108) (Eq.trans (if_pos k1_112) rfl))
        have hg : fX1_takeFirstOfPaper r x1 = (r_8.1, r_8.2) := by have e2 := congrArg (fun z => z) e_9; exact hg.trans e2
        exact eE_z hC (by rw [hg]) (nb01 (by rw [er_8]; apply Z_X1_beginPaper)) (by show PW G (rrW G a (fX1_takeFirstOfPaper r x1).1) H; rw [hg]; exact hP) hS dX1_takeFirstOfPaper_43
      · skip
        have z1_102 : ¬ x1.toInt = 102 := ne_toInt k1_102
        have z1_108 : ¬ x1.toInt = 108 := ne_toInt k1_108
        have z1_112 : ¬ x1.toInt = 112 := ne_toInt k1_112
        refine lv_lookup (tgt := 60) hC.1 hC.2.1 dX1_takeFirstOfPaper_1 (by decide) (off := 59) (by simp [Op.lookupswitch.offset, z1_102, Ne.symm z1_102, z1_108, Ne.symm z1_108, z1_112, Ne.symm z1_112]) (by decide) ?_
        refine lv_iconst (v := 0) hC.1 hC.2.1 dX1_takeFirstOfPaper_60 (by decide) ?_
        have e_10 : fX1_takeFirstOfPaper r x1 = (r, 0) := by
          delta fX1_takeFirstOfPaper
          try dsimp only
          exact Eq.trans (if_neg k1_102) (Eq.trans (if_neg k1_108) (Eq.trans (if_neg k1_112) rfl))
        have hg : fX1_takeFirstOfPaper r x1 = (r, 0) := by have e2 := congrArg (fun z => z) e_10; exact hg.trans e2
        exact eE_z hC (by rw [hg]) rfl (by show PW G (rrW G a (fX1_takeFirstOfPaper r x1).1) s.heap; rw [hg]; exact hP) hS dX1_takeFirstOfPaper_61
