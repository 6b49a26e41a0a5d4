def fX6_thrown (v : SV) : Int32 := v 8 2
def fX6_fails (v : SV) (x1 : Int32) : SV × Int32 := (mkM (v 0) (v 1) (v 2) (v 3) (v 4) (v 5) (v 6) (v 7) (v 8 0) (v 8 1) x1 (v 8 3) (v 8 4) (v 8 5) (v 8 6) (v 8 7) (v 8 8), 0)
def fX6_in (x1 : Int32) (x2 : Int32) (x3 : Int32) : Int32 := if x1 < x2 then (0) else (if x3 < x1 then (0) else (1))
def fX6_isLine (x1 : Int32) : Int32 := fX6_in x1 0 16777215
def tX6_putAside_2 (v : SV) (s : SV) : SV := let v_2 := s; v_2
def bX6_putAside_2 (v : SV) (d2 : Nat) (s : SV) : SV := let v_2 := s; let w_2 : Int32 := (v_2 0) d2; mkM (v_2 0) (v_2 1) (v_2 2) (upd (v_2 3) d2 w_2) (v_2 4) (v_2 5) (v_2 6) (v_2 7) (v_2 8 0) (v_2 8 1) (v_2 8 2) (v_2 8 3) (v_2 8 4) (v_2 8 5) (v_2 8 6) (v_2 8 7) (v_2 8 8)
def fX6_putAside (v : SV) : SV := tX6_putAside_2 v (lpF 124 0 (bX6_putAside_2 v) v)
def tX6_putBack_2 (v : SV) (s : SV) : SV := let v_2 := s; v_2
def bX6_putBack_2 (v : SV) (d2 : Nat) (s : SV) : SV := let v_2 := s; let w_2 : Int32 := (v_2 3) d2; mkM (upd (v_2 0) d2 w_2) (v_2 1) (v_2 2) (v_2 3) (v_2 4) (v_2 5) (v_2 6) (v_2 7) (v_2 8 0) (v_2 8 1) (v_2 8 2) (v_2 8 3) (v_2 8 4) (v_2 8 5) (v_2 8 6) (v_2 8 7) (v_2 8 8)
def fX6_putBack (v : SV) : SV := tX6_putBack_2 v (lpF 124 0 (bX6_putBack_2 v) v)
def fX6_cooled (v : SV) (x1 : Int32) : Int32 := if ((x1 - (x1 / ((v 0) 75))) - 1) ≤ 0 then (0) else ((x1 - (x1 / ((v 0) 75))) - 1)
def tX6_pass_2 (v : SV) (x1 : Int32) (s : SV) : SV := let v_2 := s; let w_1 : Int32 := ((v_2 0) 82) + x1; mkM (upd (v_2 0) 82 w_1) (v_2 1) (v_2 2) (v_2 3) (v_2 4) (v_2 5) (v_2 6) (v_2 7) (v_2 8 0) (v_2 8 1) (v_2 8 2) (v_2 8 3) (v_2 8 4) (v_2 8 5) (v_2 8 6) (v_2 8 7) (v_2 8 8)
def tX6_pass_9 (v : SV) (x1 : Int32) (d2 : Nat) (s : SV) : SV := let v_9 := s; v_9
def bX6_pass_9 (v : SV) (x1 : Int32) (d2 : Nat) (d9 : Nat) (s : SV) : SV := let v_9 := s; let w_5 : Int32 := fX6_cooled v_9 ((v_9 0) d9); mkM (upd (v_9 0) d9 w_5) (v_9 1) (v_9 2) (v_9 3) (v_9 4) (v_9 5) (v_9 6) (v_9 7) (v_9 8 0) (v_9 8 1) (v_9 8 2) (v_9 8 3) (v_9 8 4) (v_9 8 5) (v_9 8 6) (v_9 8 7) (v_9 8 8)
def bX6_pass_2 (v : SV) (x1 : Int32) (d2 : Nat) (s : SV) : SV := let v_2 := s; tX6_pass_9 v x1 d2 (lpF 24 0 (bX6_pass_9 v x1 d2) v_2)
def fX6_pass (v : SV) (x1 : Int32) : SV := tX6_pass_2 v x1 (lpF x1.toNatClampNeg 0 (bX6_pass_2 v x1) v)
def fX6_bit (x1 : Int32) (x2 : Int32) : Int32 := if (fX6_in x2 0 23) = 0 then (0) else ((x1 >>> (x2 &&& 31)) &&& 1)
def tX6_pulseBy_J32 (v : SV) (x1 : Int32) (x2 : Int32) (x3 : Int32) (z0_32 : Int32) : Int32 := if 20 ≤ ((((x3 + z0_32) - (20 * (fX6_bit ((v 0) 24) x2))) - (10 * (fX6_bit ((v 0) 25) x2))) - (5 * ((fX6_bit x1 (x2 - 1)) + (fX6_bit x1 (x2 + 1))))) then ((((x3 + z0_32) - (20 * (fX6_bit ((v 0) 24) x2))) - (10 * (fX6_bit ((v 0) 25) x2))) - (5 * ((fX6_bit x1 (x2 - 1)) + (fX6_bit x1 (x2 + 1))))) else (20)
def fX6_pulseBy (v : SV) (x1 : Int32) (x2 : Int32) (x3 : Int32) : Int32 := if ((v 0) 81) = 0 then (tX6_pulseBy_J32 v x1 x2 x3 0) else (if ((v 0) 81) = 1 then (tX6_pulseBy_J32 v x1 x2 x3 (-15)) else (tX6_pulseBy_J32 v x1 x2 x3 25))
def fX6_pulse (v : SV) (x1 : Int32) (x2 : Int32) : Int32 := fX6_pulseBy v x1 x2 ((v 0) 74)
def fX6_darkHeat (v : SV) : Int32 := if ((v 0) 81) = 0 then (110) else (if ((v 0) 81) = 1 then (90) else (150))
def tX6_ones_4 (x1 : Int32) (s : Int32) : Int32 := let y1_4 := s; y1_4
def bX6_ones_4 (x1 : Int32) (d4 : Nat) (s : Int32) : Int32 := let y1_4 := s; y1_4 + ((x1 >>> ((nI d4) &&& 31)) &&& 1)
def fX6_ones (x1 : Int32) : Int32 := tX6_ones_4 x1 (lpF 24 0 (bX6_ones_4 x1) 0)
theorem in_01 (x a b : Int32) : fX6_in x a b = 0 ∨ fX6_in x a b = 1 := by
  unfold fX6_in
  split
  · exact Or.inl rfl
  · split
    · exact Or.inl rfl
    · exact Or.inr rfl
/-- the settings and the paper in a row of the reference -/
def SI (r : Nat → Int32) : Prop := (∃ c, 50 ≤ c ∧ c ≤ 300 ∧ r 74 = nI c) ∧ (∃ c, 5 ≤ c ∧ c ≤ 200 ∧ r 75 = nI c) ∧ (∃ c, 330 ≤ c ∧ c ≤ 900 ∧ r 76 = nI c) ∧ (∃ c, 1 ≤ c ∧ c ≤ 20 ∧ r 77 = nI c) ∧ (∃ c, 1 ≤ c ∧ c ≤ 200 ∧ r 78 = nI c) ∧ (∃ c, c ≤ 1 ∧ r 79 = nI c) ∧ (∃ c, c ≤ 50 ∧ r 80 = nI c) ∧ (∃ c, c ≤ 2 ∧ r 81 = nI c)
theorem SI_congr {r r2 : Nat → Int32} (h : ∀ k, 74 ≤ k → k ≤ 81 → r2 k = r k) (hI : SI r) : SI r2 := by
  unfold SI at hI ⊢
  rw [h 74 (by omega) (by omega), h 75 (by omega) (by omega), h 76 (by omega) (by omega), h 77 (by omega) (by omega), h 78 (by omega) (by omega), h 79 (by omega) (by omega), h 80 (by omega) (by omega), h 81 (by omega) (by omega)]
  exact hI
theorem SI_upd {r : Nat → Int32} {k : Nat} {x : Int32} (hI : SI r) (h : k < 74 ∨ 81 < k) : SI (upd r k x) := SI_congr (fun j h1 h2 => pk_un (by omega)) hI
theorem SI_75 {r : Nat → Int32} (hI : SI r) : ¬ r 75 = 0 := by
  obtain ⟨-, ⟨c, h1, h2, h3⟩, -⟩ := hI
  rw [h3]; exact nI_ne0 (by omega) (by omega)
theorem SI_77 {r : Nat → Int32} (hI : SI r) : ¬ r 77 = 0 := by
  obtain ⟨-, -, -, ⟨c, h1, h2, h3⟩, -⟩ := hI
  rw [h3]; exact nI_ne0 (by omega) (by omega)
theorem dX6_thrown_0 : decode cX6_thrown 0 = .ok (.aload_n 0, 1) := by decide +kernel
theorem dX6_thrown_1 : decode cX6_thrown 1 = .ok (.getfield 34, 3) := by decide +kernel
theorem dX6_thrown_4 : decode cX6_thrown 4 = .ok (.ireturn, 1) := by decide +kernel
set_option maxHeartbeats 1000000 in
set_option maxRecDepth 100000 in
theorem c_X6_thrown (l : Launch) (G : GT) (q : Nat → Nat) (v : SV) (hs : Int64) : Met l yX6_thrown (Cond.code yX6_thrown cX6_thrown 1 (some .int) :: bigW) ({ frames := 0, cells := 0, slots := 0, locals := 0 }) (BP G [.ref (q 0)] (fun U H => PW G (mdW G q v hs) H)) (QP (.int (fX6_thrown v))) 0 0 (fun _ => False) := by
  refine met_of (by decide) (Nat.le_of_ble_eq_true rfl) ?_
  intro p e s m below meth c ls hC hKN hB0 hl
  have hP := hB0
  have hl : lv_has ls 1 [(0, .ref (q 0))] := hl
  have hg : fX6_thrown v = fX6_thrown v := rfl
  refine lv_aload_n hC.1 hC.2.1 dX6_thrown_0 rfl (lv_at hl 0 rfl) ?_
  refine gf (v := .int (v 8 2)) hC fwX6 hKN hP 0 rfl rfl 6 (by decide) rfl wd_893 rfl dX6_thrown_1 ?_
  have e_1 : fX6_thrown v = v 8 2 := by exact rfl
  have hg : fX6_thrown v = v 8 2 := hg.trans (congrArg (fun z => z) e_1)
  exact eP_i hC (congrArg Value.int hg) dX6_thrown_4

theorem dX6_fails_0 : decode cX6_fails 0 = .ok (.aload_n 0, 1) := by decide +kernel
theorem dX6_fails_1 : decode cX6_fails 1 = .ok (.iload_n 1, 1) := by decide +kernel
theorem dX6_fails_2 : decode cX6_fails 2 = .ok (.putfield 34, 3) := by decide +kernel
theorem dX6_fails_5 : decode cX6_fails 5 = .ok (.iconst 0, 1) := by decide +kernel
theorem dX6_fails_6 : decode cX6_fails 6 = .ok (.ireturn, 1) := by decide +kernel
set_option maxHeartbeats 1000000 in
set_option maxRecDepth 100000 in
theorem c_X6_fails (l : Launch) (G : GT) (q : Nat → Nat) (v : SV) (hs : Int64) (x1 : Int32) (hq : mdD G q) : Met l yX6_fails (Cond.code yX6_fails cX6_fails 2 (some .int) :: bigW) ({ frames := 0, cells := 0, slots := 0, locals := 0 }) (BP G [.ref (q 0), .int x1] (fun U H => PW G (mdW G q v hs) H)) (QE (some (.int (fX6_fails v x1).2)) (fun H => PW G (mdW G q (fX6_fails v x1).1 hs) H) (mdA q)) 0 0 (mdA q) := by
  refine met_of (by decide) (Nat.le_of_ble_eq_true rfl) ?_
  intro p e s m below meth c ls hC hKN hB0 hl
  have hP := hB0
  have hl : lv_has ls 2 [(0, .ref (q 0)), (1, .int x1)] := hl
  have hS : va_S (mdA q) s.heap s.heap [] := va_S.rf
  have hAL : ∀ a, (mdA q) a → gL G ≤ a := mdD_low hq
  have hg : fX6_fails v x1 = fX6_fails v x1 := rfl
  refine lv_aload_n hC.1 hC.2.1 dX6_fails_0 rfl (lv_at hl 0 rfl) ?_
  refine lv_iload_n hC.1 hC.2.1 dX6_fails_1 rfl (lv_at hl 1 rfl) ?_
  refine pf (v := .int x1) (tv := .int) hC fwX6 hKN hP (mdD_D hq v hs) hS 0 rfl rfl 6 (by decide) rfl wd_893 rfl rfl rfl (Nat.le_of_ble_eq_true rfl) dX6_fails_2 (fun H locs hq_1 hS => ?_)
  have hP : PW G (mdW G q (mkM (v 0) (v 1) (v 2) (v 3) (v 4) (v 5) (v 6) (v 7) (v 8 0) (v 8 1) x1 (v 8 3) (v 8 4) (v 8 5) (v 8 6) (v 8 7) (v 8 8)) hs) H := hq_1
  refine lv_iconst (v := 0) hC.1 hC.2.1 dX6_fails_5 (by decide) ?_
  have e_2 : fX6_fails v x1 = (mkM (v 0) (v 1) (v 2) (v 3) (v 4) (v 5) (v 6) (v 7) (v 8 0) (v 8 1) x1 (v 8 3) (v 8 4) (v 8 5) (v 8 6) (v 8 7) (v 8 8), 0) := by exact rfl
  have hg : fX6_fails v x1 = (mkM (v 0) (v 1) (v 2) (v 3) (v 4) (v 5) (v 6) (v 7) (v 8 0) (v 8 1) x1 (v 8 3) (v 8 4) (v 8 5) (v 8 6) (v 8 7) (v 8 8), 0) := hg.trans (congrArg (fun z => z) e_2)
  exact eE_i hC (by rw [hg]) (by show PW G (mdW G q (fX6_fails v x1).1 hs) H; rw [hg]; exact hP) hS dX6_fails_6

theorem dX6_in_0 : decode cX6_in 0 = .ok (.iload_n 0, 1) := by decide +kernel
theorem dX6_in_1 : decode cX6_in 1 = .ok (.iload_n 1, 1) := by decide +kernel
theorem dX6_in_2 : decode cX6_in 2 = .ok (.if_icmp .lt 12, 3) := by decide +kernel
theorem dX6_in_5 : decode cX6_in 5 = .ok (.iload_n 0, 1) := by decide +kernel
theorem dX6_in_6 : decode cX6_in 6 = .ok (.iload_n 2, 1) := by decide +kernel
theorem dX6_in_7 : decode cX6_in 7 = .ok (.if_icmp .gt 7, 3) := by decide +kernel
theorem dX6_in_10 : decode cX6_in 10 = .ok (.iconst 1, 1) := by decide +kernel
theorem dX6_in_11 : decode cX6_in 11 = .ok (.goto 4, 3) := by decide +kernel
theorem dX6_in_14 : decode cX6_in 14 = .ok (.iconst 0, 1) := by decide +kernel
theorem dX6_in_15 : decode cX6_in 15 = .ok (.ireturn, 1) := by decide +kernel
set_option maxHeartbeats 1000000 in
set_option maxRecDepth 100000 in
theorem c_X6_in (l : Launch) (G : GT) (x1 : Int32) (x2 : Int32) (x3 : Int32) : Met l yX6_in (Cond.code yX6_in cX6_in 3 (some .boolean) :: bigW) ({ frames := 0, cells := 0, slots := 0, locals := 0 }) (BP G [.int x1, .int x2, .int x3] (fun U H => True)) (QP (.int (fX6_in x1 x2 x3))) 0 0 (fun _ => False) := by
  refine met_of (by decide) (Nat.le_of_ble_eq_true rfl) ?_
  intro p e s m below meth c ls hC hKN hB0 hl
  have hl : lv_has ls 3 [(0, .int x1), (1, .int x2), (2, .int x3)] := hl
  have hg : fX6_in x1 x2 x3 = fX6_in x1 x2 x3 := rfl
  refine lv_iload_n hC.1 hC.2.1 dX6_in_0 rfl (lv_at hl 0 rfl) ?_
  refine lv_iload_n hC.1 hC.2.1 dX6_in_1 rfl (lv_at hl 1 rfl) ?_
  refine lv_icmp_lt (tgt := 14) hC.1 hC.2.1 dX6_in_2 (by decide) (fun k2 => ?_) (fun k2 => ?_)
  · refine lv_iconst (v := 0) hC.1 hC.2.1 dX6_in_14 (by decide) ?_
    have e_1 : fX6_in x1 x2 x3 = 0 := by exact Eq.trans (if_pos k2) rfl
    have hg : fX6_in x1 x2 x3 = 0 := hg.trans (congrArg (fun z => z) e_1)
    exact eP_z hC (congrArg Value.int hg) rfl dX6_in_15
  · refine lv_iload_n hC.1 hC.2.1 dX6_in_5 rfl (lv_at hl 0 rfl) ?_
    refine lv_iload_n hC.1 hC.2.1 dX6_in_6 rfl (lv_at hl 2 rfl) ?_
    refine lv_icmp_gt (tgt := 14) hC.1 hC.2.1 dX6_in_7 (by decide) (fun k7 => ?_) (fun k7 => ?_)
    · refine lv_iconst (v := 0) hC.1 hC.2.1 dX6_in_14 (by decide) ?_
      have e_2 : fX6_in x1 x2 x3 = 0 := by exact Eq.trans (if_neg k2) (Eq.trans (if_pos k7) rfl)
      have hg : fX6_in x1 x2 x3 = 0 := hg.trans (congrArg (fun z => z) e_2)
      exact eP_z hC (congrArg Value.int hg) rfl dX6_in_15
    · refine lv_iconst (v := 1) hC.1 hC.2.1 dX6_in_10 (by decide) ?_
      refine lv_goto (tgt := 15) hC.1 hC.2.1 dX6_in_11 (by decide) ?_
      have e_3 : fX6_in x1 x2 x3 = 1 := by exact Eq.trans (if_neg k2) (Eq.trans (if_neg k7) rfl)
      have hg : fX6_in x1 x2 x3 = 1 := hg.trans (congrArg (fun z => z) e_3)
      exact eP_z hC (congrArg Value.int hg) rfl dX6_in_15

theorem dX6_isLine_0 : decode cX6_isLine 0 = .ok (.iload_n 0, 1) := by decide +kernel
theorem dX6_isLine_1 : decode cX6_isLine 1 = .ok (.iconst 0, 1) := by decide +kernel
theorem dX6_isLine_2 : decode cX6_isLine 2 = .ok (.ldc 38, 2) := by decide +kernel
theorem dX6_isLine_4 : decode cX6_isLine 4 = .ok (.invokestatic 39, 3) := by decide +kernel
theorem dX6_isLine_7 : decode cX6_isLine 7 = .ok (.ireturn, 1) := by decide +kernel
set_option maxHeartbeats 1000000 in
set_option maxRecDepth 100000 in
theorem c_X6_isLine (l : Launch) (G : GT) (x1 : Int32) : Met l yX6_isLine (Cond.code yX6_isLine cX6_isLine 1 (some .boolean) :: bigW) ({ frames := 1, cells := 0, slots := 0, locals := 22 }) (BP G [.int x1] (fun U H => True)) (QP (.int (fX6_isLine x1))) 0 0 (fun _ => False) := by
  refine met_of (by decide) (Nat.le_of_ble_eq_true rfl) ?_
  intro p e s m below meth c ls hC hKN hB0 hl
  have hl : lv_has ls 1 [(0, .int x1)] := hl
  have hg : fX6_isLine x1 = fX6_isLine x1 := rfl
  refine lv_iload_n hC.1 hC.2.1 dX6_isLine_0 rfl (lv_at hl 0 rfl) ?_
  refine lv_iconst (v := 0) hC.1 hC.2.1 dX6_isLine_1 (by decide) ?_
  refine lv_ldc (v := 16777215) hC.1 hC.2.1 hC.2.2.2.2.1 (hC.2.2.2.2.2.2.1 _ wd_973) dX6_isLine_2 ?_
  refine runP (rS (B := fun U H => True) (As := [.int x1, .int 0, .int 16777215]) (rest := []) hC mwX6_in (c_X6_in l G x1 0 16777215) wd_975 wd_974 ⟨rfl, rfl⟩ ⟨Nat.le_of_ble_eq_true rfl, Nat.le_of_ble_eq_true rfl⟩ (fun _ _ _ _ h => h) hKN trivial rfl hl.1 rfl (Nat.le_of_ble_eq_true rfl) dX6_isLine_4 ⟨Nat.zero_le _, Nat.zero_le _⟩) ?_
  have e_1 : fX6_isLine x1 = fX6_in x1 0 16777215 := by exact rfl
  have hg : fX6_isLine x1 = fX6_in x1 0 16777215 := hg.trans (congrArg (fun z => z) e_1)
  exact eP_z hC (congrArg Value.int hg) (nb01 (in_01 _ _ _)) dX6_isLine_7

theorem dX6_putAside_0 : decode cX6_putAside 0 = .ok (.iconst 0, 1) := by decide +kernel
theorem dX6_putAside_1 : decode cX6_putAside 1 = .ok (.istore_n 1, 1) := by decide +kernel
theorem dX6_putAside_2 : decode cX6_putAside 2 = .ok (.iload_n 1, 1) := by decide +kernel
theorem dX6_putAside_3 : decode cX6_putAside 3 = .ok (.bipush 124, 2) := by decide +kernel
theorem dX6_putAside_5 : decode cX6_putAside 5 = .ok (.if_icmp .ge 21, 3) := by decide +kernel
theorem dX6_putAside_8 : decode cX6_putAside 8 = .ok (.aload_n 0, 1) := by decide +kernel
theorem dX6_putAside_9 : decode cX6_putAside 9 = .ok (.getfield 19, 3) := by decide +kernel
theorem dX6_putAside_12 : decode cX6_putAside 12 = .ok (.iload_n 1, 1) := by decide +kernel
theorem dX6_putAside_13 : decode cX6_putAside 13 = .ok (.aload_n 0, 1) := by decide +kernel
theorem dX6_putAside_14 : decode cX6_putAside 14 = .ok (.getfield 7, 3) := by decide +kernel
theorem dX6_putAside_17 : decode cX6_putAside 17 = .ok (.iload_n 1, 1) := by decide +kernel
theorem dX6_putAside_18 : decode cX6_putAside 18 = .ok (.iaload, 1) := by decide +kernel
theorem dX6_putAside_19 : decode cX6_putAside 19 = .ok (.iastore, 1) := by decide +kernel
theorem dX6_putAside_20 : decode cX6_putAside 20 = .ok (.iinc 1 1, 3) := by decide +kernel
theorem dX6_putAside_23 : decode cX6_putAside 23 = .ok (.goto (-21), 3) := by decide +kernel
theorem dX6_putAside_26 : decode cX6_putAside 26 = .ok (.return_, 1) := by decide +kernel
set_option maxHeartbeats 1000000 in
set_option maxRecDepth 100000 in
theorem c_X6_putAside (l : Launch) (G : GT) (q : Nat → Nat) (v : SV) (hs : Int64) (hq : mdD G q) : Met l yX6_putAside (Cond.code yX6_putAside cX6_putAside 2 none :: bigW) ({ frames := 0, cells := 0, slots := 0, locals := 0 }) (BP G [.ref (q 0)] (fun U H => PW G (mdW G q v hs) H)) (QE (none) (fun H => PW G (mdW G q (fX6_putAside v) hs) H) (mdA q)) 0 0 (mdA q) := by
  refine met_of (by decide) (Nat.le_of_ble_eq_true rfl) ?_
  intro p e s m below meth c ls hC hKN hB0 hl
  have hP := hB0
  have hl : lv_has ls 2 [(0, .ref (q 0))] := hl
  have hS : va_S (mdA q) s.heap s.heap [] := va_S.rf
  have hAL : ∀ a, (mdA q) a → gL G ≤ a := mdD_low hq
  have hg : fX6_putAside v = fX6_putAside v := rfl
  refine lv_iconst (v := 0) hC.1 hC.2.1 dX6_putAside_0 (by decide) ?_
  refine lv_istore_n (lv' := [(1, .int 0), (0, .ref (q 0))]) hC.1 hC.2.1 dX6_putAside_1 rfl hl (by decide) rfl (fun ls hl => ?_)
  have A2 : ∀ (v_2 : SV), fX6_putAside v = (tX6_putAside_2 v v_2) → ∀ (H : Heap) (locs : List Loc), PW G (mdW G q v_2 hs) H → va_S (mdA q) s.heap H locs → ∀ (ls : Array Slot), lv_has ls 2 [] → W p l e ({ frames := 0, cells := 0, slots := 0, locals := 0 }) s m ([.ref (q 0)] : List Value).toArray below meth c H locs 0 0 (MQ below (QE (none) (fun H => PW G (mdW G q (fX6_putAside v) hs) H) (mdA q)) ([.ref (q 0)] : List Value).toArray s 0 0 (mdA q)) (F0 m 26 ls []) := by
    intro  v_2 hg H locs hP hS ls hl
    have e_1 : tX6_putAside_2 v v_2 = v_2 := by exact rfl
    have hg : fX6_putAside v = v_2 := hg.trans (congrArg (fun z => z) e_1)
    exact eE_v hC (by show PW G (mdW G q (fX6_putAside v) hs) H; rw [hg]; exact hP) hS dX6_putAside_26
  have L2 : ∀ (n2 d2 : Nat), ∀ (v_2 : SV), d2 + n2 = 124 → fX6_putAside v = (tX6_putAside_2 v (lpF n2 d2 (bX6_putAside_2 v) v_2)) → ∀ (H : Heap) (locs : List Loc), PW G (mdW G q v_2 hs) H → va_S (mdA q) s.heap H locs → ∀ (ls : Array Slot), lv_has ls 2 [(0, .ref (q 0)), (1, .int (nI d2))] → W p l e ({ frames := 0, cells := 0, slots := 0, locals := 0 }) s m ([.ref (q 0)] : List Value).toArray below meth c H locs 0 0 (MQ below (QE (none) (fun H => PW G (mdW G q (fX6_putAside v) hs) H) (mdA q)) ([.ref (q 0)] : List Value).toArray s 0 0 (mdA q)) (F0 m 2 ls []) := by
    intro n2
    induction n2 with
    | zero =>
      intro d2 v_2 hd hg H locs hP hS ls hl
      refine lv_iload_n hC.1 hC.2.1 dX6_putAside_2 rfl (lv_at hl 1 rfl) ?_
      refine lv_bipush (v := 124) hC.1 hC.2.1 dX6_putAside_3 (by decide +kernel) ?_
      refine lv_icmp_ge (tgt := 26) hC.1 hC.2.1 dX6_putAside_5 (by decide) (fun k5 => ?_) (fun k5 => ?_)
      · exact A2  v_2 hg _ _ hP hS _ (lv_sub hl [] rfl)
      · exact absurd (nI_le (a := 124) (b := d2) (by omega) (by omega)) k5
    | succ n2 ih =>
      intro d2 v_2 hd hg H locs hP hS ls hl
      have hg : fX6_putAside v = (tX6_putAside_2 v (lpF n2 (d2 + 1) (bX6_putAside_2 v) (bX6_putAside_2 v d2 v_2))) := hg
      refine lv_iload_n hC.1 hC.2.1 dX6_putAside_2 rfl (lv_at hl 1 rfl) ?_
      refine lv_bipush (v := 124) hC.1 hC.2.1 dX6_putAside_3 (by decide +kernel) ?_
      refine lv_icmp_ge (tgt := 26) hC.1 hC.2.1 dX6_putAside_5 (by decide) (fun k5 => ?_) (fun k5 => ?_)
      · exact absurd k5 (nI_ge (a := d2) (b := 124) (by omega) (by omega))
      · refine lv_aload_n hC.1 hC.2.1 dX6_putAside_8 rfl (lv_at hl 0 rfl) ?_
        refine gf (v := .ref (q 4)) hC fwX6 (hKN.go hAL hS) hP 0 rfl rfl 5 (by decide) rfl wd_892 rfl dX6_putAside_9 ?_
        refine lv_iload_n hC.1 hC.2.1 dX6_putAside_12 rfl (lv_at hl 1 rfl) ?_
        refine lv_aload_n hC.1 hC.2.1 dX6_putAside_13 rfl (lv_at hl 0 rfl) ?_
        refine gf (v := .ref (q 1)) hC fwX6 (hKN.go hAL hS) hP 0 rfl rfl 0 (by decide) rfl wd_887 rfl dX6_putAside_14 ?_
        refine lv_iload_n hC.1 hC.2.1 dX6_putAside_17 rfl (lv_at hl 1 rfl) ?_
        refine iald_k hC (hKN.go hAL hS) hP 1 rfl (n := 124) (f := (v_2 0)) d2 (rfl) (by omega) (by decide) dX6_putAside_18 ?_
        refine lv_topi (fun w_2 ew_2 => ?_)
        refine iast_k hC (hKN.go hAL hS) hP (mdD_D hq v_2 hs) hS 4 rfl (n := 124) (f := (v_2 3)) d2 (rfl) (by omega) (by decide) dX6_putAside_19 (fun H locs hq_3 hS => ?_)
        have hP : PW G (mdW G q (mkM (v_2 0) (v_2 1) (v_2 2) (upd (v_2 3) d2 w_2) (v_2 4) (v_2 5) (v_2 6) (v_2 7) (v_2 8 0) (v_2 8 1) (v_2 8 2) (v_2 8 3) (v_2 8 4) (v_2 8 5) (v_2 8 6) (v_2 8 7) (v_2 8 8)) hs) H := hq_3
        refine lv_iinc (v := nI (d2 + 1)) (lv' := [(1, .int (nI (d2 + 1))), (0, .ref (q 0))]) hC.1 hC.2.1 dX6_putAside_20 hl (k := 1) rfl (nI_1 _) (by decide) rfl (fun ls hl => ?_)
        refine lv_goto (tgt := 2) hC.1 hC.2.1 dX6_putAside_23 (by decide) ?_
        have e_4 : bX6_putAside_2 v d2 v_2 = mkM (v_2 0) (v_2 1) (v_2 2) (upd (v_2 3) d2 w_2) (v_2 4) (v_2 5) (v_2 6) (v_2 7) (v_2 8 0) (v_2 8 1) (v_2 8 2) (v_2 8 3) (v_2 8 4) (v_2 8 5) (v_2 8 6) (v_2 8 7) (v_2 8 8) := by subst ew_2; exact rfl
        have hg : fX6_putAside v = (tX6_putAside_2 v (lpF n2 (d2 + 1) (bX6_putAside_2 v) (mkM (v_2 0) (v_2 1) (v_2 2) (upd (v_2 3) d2 w_2) (v_2 4) (v_2 5) (v_2 6) (v_2 7) (v_2 8 0) (v_2 8 1) (v_2 8 2) (v_2 8 3) (v_2 8 4) (v_2 8 5) (v_2 8 6) (v_2 8 7) (v_2 8 8)))) := hg.trans (congrArg (fun z => (tX6_putAside_2 v (lpF n2 (d2 + 1) (bX6_putAside_2 v) z))) e_4)
        exact ih (d2 + 1) (mkM (v_2 0) (v_2 1) (v_2 2) (upd (v_2 3) d2 w_2) (v_2 4) (v_2 5) (v_2 6) (v_2 7) (v_2 8 0) (v_2 8 1) (v_2 8 2) (v_2 8 3) (v_2 8 4) (v_2 8 5) (v_2 8 6) (v_2 8 7) (v_2 8 8)) (by omega) hg _ _ hP hS _ (lv_sub hl [1, 0] rfl)
  have e_5 : fX6_putAside v = tX6_putAside_2 v (lpF 124 0 (bX6_putAside_2 v) v) := by exact rfl
  have hg : fX6_putAside v = (tX6_putAside_2 v (lpF 124 0 (bX6_putAside_2 v) v)) := hg.trans (congrArg (fun z => z) e_5)
  exact L2  124 0 v (by omega) hg _ _ hP hS _ (lv_sub hl [1, 0] rfl)

theorem dX6_putBack_0 : decode cX6_putBack 0 = .ok (.iconst 0, 1) := by decide +kernel
theorem dX6_putBack_1 : decode cX6_putBack 1 = .ok (.istore_n 1, 1) := by decide +kernel
theorem dX6_putBack_2 : decode cX6_putBack 2 = .ok (.iload_n 1, 1) := by decide +kernel
theorem dX6_putBack_3 : decode cX6_putBack 3 = .ok (.bipush 124, 2) := by decide +kernel
theorem dX6_putBack_5 : decode cX6_putBack 5 = .ok (.if_icmp .ge 21, 3) := by decide +kernel
theorem dX6_putBack_8 : decode cX6_putBack 8 = .ok (.aload_n 0, 1) := by decide +kernel
theorem dX6_putBack_9 : decode cX6_putBack 9 = .ok (.getfield 7, 3) := by decide +kernel
theorem dX6_putBack_12 : decode cX6_putBack 12 = .ok (.iload_n 1, 1) := by decide +kernel
theorem dX6_putBack_13 : decode cX6_putBack 13 = .ok (.aload_n 0, 1) := by decide +kernel
theorem dX6_putBack_14 : decode cX6_putBack 14 = .ok (.getfield 19, 3) := by decide +kernel
theorem dX6_putBack_17 : decode cX6_putBack 17 = .ok (.iload_n 1, 1) := by decide +kernel
theorem dX6_putBack_18 : decode cX6_putBack 18 = .ok (.iaload, 1) := by decide +kernel
theorem dX6_putBack_19 : decode cX6_putBack 19 = .ok (.iastore, 1) := by decide +kernel
theorem dX6_putBack_20 : decode cX6_putBack 20 = .ok (.iinc 1 1, 3) := by decide +kernel
theorem dX6_putBack_23 : decode cX6_putBack 23 = .ok (.goto (-21), 3) := by decide +kernel
theorem dX6_putBack_26 : decode cX6_putBack 26 = .ok (.return_, 1) := by decide +kernel
set_option maxHeartbeats 1000000 in
set_option maxRecDepth 100000 in
theorem c_X6_putBack (l : Launch) (G : GT) (q : Nat → Nat) (v : SV) (hs : Int64) (hq : mdD G q) : Met l yX6_putBack (Cond.code yX6_putBack cX6_putBack 2 none :: bigW) ({ frames := 0, cells := 0, slots := 0, locals := 0 }) (BP G [.ref (q 0)] (fun U H => PW G (mdW G q v hs) H)) (QE (none) (fun H => PW G (mdW G q (fX6_putBack v) hs) H) (mdA q)) 0 0 (mdA q) := by
  refine met_of (by decide) (Nat.le_of_ble_eq_true rfl) ?_
  intro p e s m below meth c ls hC hKN hB0 hl
  have hP := hB0
  have hl : lv_has ls 2 [(0, .ref (q 0))] := hl
  have hS : va_S (mdA q) s.heap s.heap [] := va_S.rf
  have hAL : ∀ a, (mdA q) a → gL G ≤ a := mdD_low hq
  have hg : fX6_putBack v = fX6_putBack v := rfl
  refine lv_iconst (v := 0) hC.1 hC.2.1 dX6_putBack_0 (by decide) ?_
  refine lv_istore_n (lv' := [(1, .int 0), (0, .ref (q 0))]) hC.1 hC.2.1 dX6_putBack_1 rfl hl (by decide) rfl (fun ls hl => ?_)
  have A2 : ∀ (v_2 : SV), fX6_putBack v = (tX6_putBack_2 v v_2) → ∀ (H : Heap) (locs : List Loc), PW G (mdW G q v_2 hs) H → va_S (mdA q) s.heap H locs → ∀ (ls : Array Slot), lv_has ls 2 [] → W p l e ({ frames := 0, cells := 0, slots := 0, locals := 0 }) s m ([.ref (q 0)] : List Value).toArray below meth c H locs 0 0 (MQ below (QE (none) (fun H => PW G (mdW G q (fX6_putBack v) hs) H) (mdA q)) ([.ref (q 0)] : List Value).toArray s 0 0 (mdA q)) (F0 m 26 ls []) := by
    intro  v_2 hg H locs hP hS ls hl
    have e_1 : tX6_putBack_2 v v_2 = v_2 := by exact rfl
    have hg : fX6_putBack v = v_2 := hg.trans (congrArg (fun z => z) e_1)
    exact eE_v hC (by show PW G (mdW G q (fX6_putBack v) hs) H; rw [hg]; exact hP) hS dX6_putBack_26
  have L2 : ∀ (n2 d2 : Nat), ∀ (v_2 : SV), d2 + n2 = 124 → fX6_putBack v = (tX6_putBack_2 v (lpF n2 d2 (bX6_putBack_2 v) v_2)) → ∀ (H : Heap) (locs : List Loc), PW G (mdW G q v_2 hs) H → va_S (mdA q) s.heap H locs → ∀ (ls : Array Slot), lv_has ls 2 [(0, .ref (q 0)), (1, .int (nI d2))] → W p l e ({ frames := 0, cells := 0, slots := 0, locals := 0 }) s m ([.ref (q 0)] : List Value).toArray below meth c H locs 0 0 (MQ below (QE (none) (fun H => PW G (mdW G q (fX6_putBack v) hs) H) (mdA q)) ([.ref (q 0)] : List Value).toArray s 0 0 (mdA q)) (F0 m 2 ls []) := by
    intro n2
    induction n2 with
    | zero =>
      intro d2 v_2 hd hg H locs hP hS ls hl
      refine lv_iload_n hC.1 hC.2.1 dX6_putBack_2 rfl (lv_at hl 1 rfl) ?_
      refine lv_bipush (v := 124) hC.1 hC.2.1 dX6_putBack_3 (by decide +kernel) ?_
      refine lv_icmp_ge (tgt := 26) hC.1 hC.2.1 dX6_putBack_5 (by decide) (fun k5 => ?_) (fun k5 => ?_)
      · exact A2  v_2 hg _ _ hP hS _ (lv_sub hl [] rfl)
      · exact absurd (nI_le (a := 124) (b := d2) (by omega) (by omega)) k5
    | succ n2 ih =>
      intro d2 v_2 hd hg H locs hP hS ls hl
      have hg : fX6_putBack v = (tX6_putBack_2 v (lpF n2 (d2 + 1) (bX6_putBack_2 v) (bX6_putBack_2 v d2 v_2))) := hg
      refine lv_iload_n hC.1 hC.2.1 dX6_putBack_2 rfl (lv_at hl 1 rfl) ?_
      refine lv_bipush (v := 124) hC.1 hC.2.1 dX6_putBack_3 (by decide +kernel) ?_
      refine lv_icmp_ge (tgt := 26) hC.1 hC.2.1 dX6_putBack_5 (by decide) (fun k5 => ?_) (fun k5 => ?_)
      · exact absurd k5 (nI_ge (a := d2) (b := 124) (by omega) (by omega))
      · refine lv_aload_n hC.1 hC.2.1 dX6_putBack_8 rfl (lv_at hl 0 rfl) ?_
        refine gf (v := .ref (q 1)) hC fwX6 (hKN.go hAL hS) hP 0 rfl rfl 0 (by decide) rfl wd_887 rfl dX6_putBack_9 ?_
        refine lv_iload_n hC.1 hC.2.1 dX6_putBack_12 rfl (lv_at hl 1 rfl) ?_
        refine lv_aload_n hC.1 hC.2.1 dX6_putBack_13 rfl (lv_at hl 0 rfl) ?_
        refine gf (v := .ref (q 4)) hC fwX6 (hKN.go hAL hS) hP 0 rfl rfl 5 (by decide) rfl wd_892 rfl dX6_putBack_14 ?_
        refine lv_iload_n hC.1 hC.2.1 dX6_putBack_17 rfl (lv_at hl 1 rfl) ?_
        refine iald_k hC (hKN.go hAL hS) hP 4 rfl (n := 124) (f := (v_2 3)) d2 (rfl) (by omega) (by decide) dX6_putBack_18 ?_
        refine lv_topi (fun w_2 ew_2 => ?_)
        refine iast_k hC (hKN.go hAL hS) hP (mdD_D hq v_2 hs) hS 1 rfl (n := 124) (f := (v_2 0)) d2 (rfl) (by omega) (by decide) dX6_putBack_19 (fun H locs hq_3 hS => ?_)
        have hP : PW G (mdW G q (mkM (upd (v_2 0) d2 w_2) (v_2 1) (v_2 2) (v_2 3) (v_2 4) (v_2 5) (v_2 6) (v_2 7) (v_2 8 0) (v_2 8 1) (v_2 8 2) (v_2 8 3) (v_2 8 4) (v_2 8 5) (v_2 8 6) (v_2 8 7) (v_2 8 8)) hs) H := hq_3
        refine lv_iinc (v := nI (d2 + 1)) (lv' := [(1, .int (nI (d2 + 1))), (0, .ref (q 0))]) hC.1 hC.2.1 dX6_putBack_20 hl (k := 1) rfl (nI_1 _) (by decide) rfl (fun ls hl => ?_)
        refine lv_goto (tgt := 2) hC.1 hC.2.1 dX6_putBack_23 (by decide) ?_
        have e_4 : bX6_putBack_2 v d2 v_2 = mkM (upd (v_2 0) d2 w_2) (v_2 1) (v_2 2) (v_2 3) (v_2 4) (v_2 5) (v_2 6) (v_2 7) (v_2 8 0) (v_2 8 1) (v_2 8 2) (v_2 8 3) (v_2 8 4) (v_2 8 5) (v_2 8 6) (v_2 8 7) (v_2 8 8) := by subst ew_2; exact rfl
        have hg : fX6_putBack v = (tX6_putBack_2 v (lpF n2 (d2 + 1) (bX6_putBack_2 v) (mkM (upd (v_2 0) d2 w_2) (v_2 1) (v_2 2) (v_2 3) (v_2 4) (v_2 5) (v_2 6) (v_2 7) (v_2 8 0) (v_2 8 1) (v_2 8 2) (v_2 8 3) (v_2 8 4) (v_2 8 5) (v_2 8 6) (v_2 8 7) (v_2 8 8)))) := hg.trans (congrArg (fun z => (tX6_putBack_2 v (lpF n2 (d2 + 1) (bX6_putBack_2 v) z))) e_4)
        exact ih (d2 + 1) (mkM (upd (v_2 0) d2 w_2) (v_2 1) (v_2 2) (v_2 3) (v_2 4) (v_2 5) (v_2 6) (v_2 7) (v_2 8 0) (v_2 8 1) (v_2 8 2) (v_2 8 3) (v_2 8 4) (v_2 8 5) (v_2 8 6) (v_2 8 7) (v_2 8 8)) (by omega) hg _ _ hP hS _ (lv_sub hl [1, 0] rfl)
  have e_5 : fX6_putBack v = tX6_putBack_2 v (lpF 124 0 (bX6_putBack_2 v) v) := by exact rfl
  have hg : fX6_putBack v = (tX6_putBack_2 v (lpF 124 0 (bX6_putBack_2 v) v)) := hg.trans (congrArg (fun z => z) e_5)
  exact L2  124 0 v (by omega) hg _ _ hP hS _ (lv_sub hl [1, 0] rfl)

theorem dX6_cooled_0 : decode cX6_cooled 0 = .ok (.iload_n 1, 1) := by decide +kernel
theorem dX6_cooled_1 : decode cX6_cooled 1 = .ok (.iload_n 1, 1) := by decide +kernel
theorem dX6_cooled_2 : decode cX6_cooled 2 = .ok (.aload_n 0, 1) := by decide +kernel
theorem dX6_cooled_3 : decode cX6_cooled 3 = .ok (.getfield 7, 3) := by decide +kernel
theorem dX6_cooled_6 : decode cX6_cooled 6 = .ok (.bipush 75, 2) := by decide +kernel
theorem dX6_cooled_8 : decode cX6_cooled 8 = .ok (.iaload, 1) := by decide +kernel
theorem dX6_cooled_9 : decode cX6_cooled 9 = .ok (.idiv, 1) := by decide +kernel
theorem dX6_cooled_10 : decode cX6_cooled 10 = .ok (.isub, 1) := by decide +kernel
theorem dX6_cooled_11 : decode cX6_cooled 11 = .ok (.iconst 1, 1) := by decide +kernel
theorem dX6_cooled_12 : decode cX6_cooled 12 = .ok (.isub, 1) := by decide +kernel
theorem dX6_cooled_13 : decode cX6_cooled 13 = .ok (.istore_n 2, 1) := by decide +kernel
theorem dX6_cooled_14 : decode cX6_cooled 14 = .ok (.iload_n 2, 1) := by decide +kernel
theorem dX6_cooled_15 : decode cX6_cooled 15 = .ok (.ifCond .le 7, 3) := by decide +kernel
theorem dX6_cooled_18 : decode cX6_cooled 18 = .ok (.iload_n 2, 1) := by decide +kernel
theorem dX6_cooled_19 : decode cX6_cooled 19 = .ok (.goto 4, 3) := by decide +kernel
theorem dX6_cooled_22 : decode cX6_cooled 22 = .ok (.iconst 0, 1) := by decide +kernel
theorem dX6_cooled_23 : decode cX6_cooled 23 = .ok (.ireturn, 1) := by decide +kernel
set_option maxHeartbeats 1000000 in
set_option maxRecDepth 100000 in
theorem c_X6_cooled (l : Launch) (G : GT) (q : Nat → Nat) (v : SV) (hs : Int64) (x1 : Int32) (hI : SI (v 0)) : Met l yX6_cooled (Cond.code yX6_cooled cX6_cooled 3 (some .int) :: bigW) ({ frames := 0, cells := 0, slots := 0, locals := 0 }) (BP G [.ref (q 0), .int x1] (fun U H => PW G (mdW G q v hs) H)) (QP (.int (fX6_cooled v x1))) 0 0 (fun _ => False) := by
  refine met_of (by decide) (Nat.le_of_ble_eq_true rfl) ?_
  intro p e s m below meth c ls hC hKN hB0 hl
  have hP := hB0
  have hl : lv_has ls 3 [(0, .ref (q 0)), (1, .int x1)] := hl
  have hg : fX6_cooled v x1 = fX6_cooled v x1 := rfl
  refine lv_iload_n hC.1 hC.2.1 dX6_cooled_0 rfl (lv_at hl 1 rfl) ?_
  refine lv_iload_n hC.1 hC.2.1 dX6_cooled_1 rfl (lv_at hl 1 rfl) ?_
  refine lv_aload_n hC.1 hC.2.1 dX6_cooled_2 rfl (lv_at hl 0 rfl) ?_
  refine gf (v := .ref (q 1)) hC fwX6 hKN hP 0 rfl rfl 0 (by decide) rfl wd_887 rfl dX6_cooled_3 ?_
  refine lv_bipush (v := 75) hC.1 hC.2.1 dX6_cooled_6 (by decide +kernel) ?_
  refine iald_k hC hKN hP 1 rfl (n := 124) (f := (v 0)) 75 (rfl) (by omega) (by decide) dX6_cooled_8 ?_
  refine lv_idiv hC.1 hC.2.1 dX6_cooled_9 (SI_75 hI) ?_
  refine lv_isub hC.1 hC.2.1 dX6_cooled_10 ?_
  refine lv_iconst (v := 1) hC.1 hC.2.1 dX6_cooled_11 (by decide) ?_
  refine lv_isub hC.1 hC.2.1 dX6_cooled_12 ?_
  refine lv_istore_n (lv' := [(2, .int ((x1 - (x1 / ((v 0) 75))) - 1)), (0, .ref (q 0)), (1, .int x1)]) hC.1 hC.2.1 dX6_cooled_13 rfl hl (by decide) rfl (fun ls hl => ?_)
  refine lv_iload_n hC.1 hC.2.1 dX6_cooled_14 rfl (lv_at hl 0 rfl) ?_
  refine lv_if_le (tgt := 22) hC.1 hC.2.1 dX6_cooled_15 (by decide) (fun k15 => ?_) (fun k15 => ?_)
  · refine lv_iconst (v := 0) hC.1 hC.2.1 dX6_cooled_22 (by decide) ?_
    have e_1 : fX6_cooled v x1 = 0 := by exact Eq.trans (if_pos k15) rfl
    have hg : fX6_cooled v x1 = 0 := hg.trans (congrArg (fun z => z) e_1)
    exact eP_i hC (congrArg Value.int hg) dX6_cooled_23
  · refine lv_iload_n hC.1 hC.2.1 dX6_cooled_18 rfl (lv_at hl 0 rfl) ?_
    refine lv_goto (tgt := 23) hC.1 hC.2.1 dX6_cooled_19 (by decide) ?_
    have e_2 : fX6_cooled v x1 = (x1 - (x1 / ((v 0) 75))) - 1 := by exact Eq.trans (if_neg k15) rfl
    have hg : fX6_cooled v x1 = (x1 - (x1 / ((v 0) 75))) - 1 := hg.trans (congrArg (fun z => z) e_2)
    exact eP_i hC (congrArg Value.int hg) dX6_cooled_23

theorem dX6_pass_0 : decode cX6_pass 0 = .ok (.iconst 0, 1) := by decide +kernel
theorem dX6_pass_1 : decode cX6_pass 1 = .ok (.istore_n 2, 1) := by decide +kernel
theorem dX6_pass_2 : decode cX6_pass 2 = .ok (.iload_n 2, 1) := by decide +kernel
theorem dX6_pass_3 : decode cX6_pass 3 = .ok (.iload_n 1, 1) := by decide +kernel
theorem dX6_pass_4 : decode cX6_pass 4 = .ok (.if_icmp .ge 39, 3) := by decide +kernel
theorem dX6_pass_7 : decode cX6_pass 7 = .ok (.iconst 0, 1) := by decide +kernel
theorem dX6_pass_8 : decode cX6_pass 8 = .ok (.istore_n 3, 1) := by decide +kernel
theorem dX6_pass_9 : decode cX6_pass 9 = .ok (.iload_n 3, 1) := by decide +kernel
theorem dX6_pass_10 : decode cX6_pass 10 = .ok (.bipush 24, 2) := by decide +kernel
theorem dX6_pass_12 : decode cX6_pass 12 = .ok (.if_icmp .ge 25, 3) := by decide +kernel
theorem dX6_pass_15 : decode cX6_pass 15 = .ok (.aload_n 0, 1) := by decide +kernel
theorem dX6_pass_16 : decode cX6_pass 16 = .ok (.getfield 7, 3) := by decide +kernel
theorem dX6_pass_19 : decode cX6_pass 19 = .ok (.iload_n 3, 1) := by decide +kernel
theorem dX6_pass_20 : decode cX6_pass 20 = .ok (.aload_n 0, 1) := by decide +kernel
theorem dX6_pass_21 : decode cX6_pass 21 = .ok (.aload_n 0, 1) := by decide +kernel
theorem dX6_pass_22 : decode cX6_pass 22 = .ok (.getfield 7, 3) := by decide +kernel
theorem dX6_pass_25 : decode cX6_pass 25 = .ok (.iload_n 3, 1) := by decide +kernel
theorem dX6_pass_26 : decode cX6_pass 26 = .ok (.iaload, 1) := by decide +kernel
theorem dX6_pass_27 : decode cX6_pass 27 = .ok (.invokevirtual 57, 3) := by decide +kernel
theorem dX6_pass_30 : decode cX6_pass 30 = .ok (.iastore, 1) := by decide +kernel
theorem dX6_pass_31 : decode cX6_pass 31 = .ok (.iinc 3 1, 3) := by decide +kernel
theorem dX6_pass_34 : decode cX6_pass 34 = .ok (.goto (-25), 3) := by decide +kernel
theorem dX6_pass_37 : decode cX6_pass 37 = .ok (.iinc 2 1, 3) := by decide +kernel
theorem dX6_pass_40 : decode cX6_pass 40 = .ok (.goto (-38), 3) := by decide +kernel
theorem dX6_pass_43 : decode cX6_pass 43 = .ok (.aload_n 0, 1) := by decide +kernel
theorem dX6_pass_44 : decode cX6_pass 44 = .ok (.getfield 7, 3) := by decide +kernel
theorem dX6_pass_47 : decode cX6_pass 47 = .ok (.bipush 82, 2) := by decide +kernel
theorem dX6_pass_49 : decode cX6_pass 49 = .ok (.dup2, 1) := by decide +kernel
theorem dX6_pass_50 : decode cX6_pass 50 = .ok (.iaload, 1) := by decide +kernel
theorem dX6_pass_51 : decode cX6_pass 51 = .ok (.iload_n 1, 1) := by decide +kernel
theorem dX6_pass_52 : decode cX6_pass 52 = .ok (.iadd, 1) := by decide +kernel
theorem dX6_pass_53 : decode cX6_pass 53 = .ok (.iastore, 1) := by decide +kernel
theorem dX6_pass_54 : decode cX6_pass 54 = .ok (.return_, 1) := by decide +kernel
set_option maxHeartbeats 1000000 in
set_option maxRecDepth 100000 in
theorem c_X6_pass (l : Launch) (G : GT) (q : Nat → Nat) (v : SV) (hs : Int64) (x1 : Int32) (hq : mdD G q) (hI : SI (v 0)) : Met l yX6_pass (Cond.code yX6_pass cX6_pass 4 none :: bigW) ({ frames := 1, cells := 0, slots := 0, locals := 22 }) (BP G [.ref (q 0), .int x1] (fun U H => PW G (mdW G q v hs) H)) (QE (none) (fun H => PW G (mdW G q (fX6_pass v x1) hs) H) (mdA q)) 0 0 (mdA q) := by
  refine met_of (by decide) (Nat.le_of_ble_eq_true rfl) ?_
  intro p e s m below meth c ls hC hKN hB0 hl
  have hP := hB0
  have hl : lv_has ls 4 [(0, .ref (q 0)), (1, .int x1)] := hl
  have hS : va_S (mdA q) s.heap s.heap [] := va_S.rf
  have hAL : ∀ a, (mdA q) a → gL G ≤ a := mdD_low hq
  have hg : fX6_pass v x1 = fX6_pass v x1 := rfl
  refine lv_iconst (v := 0) hC.1 hC.2.1 dX6_pass_0 (by decide) ?_
  refine lv_istore_n (lv' := [(2, .int 0), (0, .ref (q 0)), (1, .int x1)]) hC.1 hC.2.1 dX6_pass_1 rfl hl (by decide) rfl (fun ls hl => ?_)
  have A2 : ∀ (v_2 : SV), fX6_pass v x1 = (tX6_pass_2 v x1 v_2) → SI (v_2 0) → ∀ (H : Heap) (locs : List Loc), PW G (mdW G q v_2 hs) H → va_S (mdA q) s.heap H locs → ∀ (ls : Array Slot), lv_has ls 4 [(0, .ref (q 0)), (1, .int x1)] → W p l e ({ frames := 1, cells := 0, slots := 0, locals := 22 }) s m ([.ref (q 0), .int x1] : List Value).toArray below meth c H locs 0 0 (MQ below (QE (none) (fun H => PW G (mdW G q (fX6_pass v x1) hs) H) (mdA q)) ([.ref (q 0), .int x1] : List Value).toArray s 0 0 (mdA q)) (F0 m 43 ls []) := by
    intro  v_2 hg hI H locs hP hS ls hl
    refine lv_aload_n hC.1 hC.2.1 dX6_pass_43 rfl (lv_at hl 0 rfl) ?_
    refine gf (v := .ref (q 1)) hC fwX6 (hKN.go hAL hS) hP 0 rfl rfl 0 (by decide) rfl wd_887 rfl dX6_pass_44 ?_
    refine lv_bipush (v := 82) hC.1 hC.2.1 dX6_pass_47 (by decide +kernel) ?_
    refine lv_dup2_11 hC.1 hC.2.1 dX6_pass_49 rfl rfl ?_
    refine iald_k hC (hKN.go hAL hS) hP 1 rfl (n := 124) (f := (v_2 0)) 82 (rfl) (by omega) (by decide) dX6_pass_50 ?_
    refine lv_iload_n hC.1 hC.2.1 dX6_pass_51 rfl (lv_at hl 1 rfl) ?_
    refine lv_iadd hC.1 hC.2.1 dX6_pass_52 ?_
    refine lv_topi (fun w_1 ew_1 => ?_)
    refine iast_k hC (hKN.go hAL hS) hP (mdD_D hq v_2 hs) hS 1 rfl (n := 124) (f := (v_2 0)) 82 (rfl) (by omega) (by decide) dX6_pass_53 (fun H locs hq_2 hS => ?_)
    have hP : PW G (mdW G q (mkM (upd (v_2 0) 82 w_1) (v_2 1) (v_2 2) (v_2 3) (v_2 4) (v_2 5) (v_2 6) (v_2 7) (v_2 8 0) (v_2 8 1) (v_2 8 2) (v_2 8 3) (v_2 8 4) (v_2 8 5) (v_2 8 6) (v_2 8 7) (v_2 8 8)) hs) H := hq_2
    have hI : SI ((mkM (upd (v_2 0) 82 w_1) (v_2 1) (v_2 2) (v_2 3) (v_2 4) (v_2 5) (v_2 6) (v_2 7) (v_2 8 0) (v_2 8 1) (v_2 8 2) (v_2 8 3) (v_2 8 4) (v_2 8 5) (v_2 8 6) (v_2 8 7) (v_2 8 8)) 0) := (SI_upd hI (Or.inr (by omega)))
    have e_3 : tX6_pass_2 v x1 v_2 = mkM (upd (v_2 0) 82 w_1) (v_2 1) (v_2 2) (v_2 3) (v_2 4) (v_2 5) (v_2 6) (v_2 7) (v_2 8 0) (v_2 8 1) (v_2 8 2) (v_2 8 3) (v_2 8 4) (v_2 8 5) (v_2 8 6) (v_2 8 7) (v_2 8 8) := by subst ew_1; exact rfl
    have hg : fX6_pass v x1 = mkM (upd (v_2 0) 82 w_1) (v_2 1) (v_2 2) (v_2 3) (v_2 4) (v_2 5) (v_2 6) (v_2 7) (v_2 8 0) (v_2 8 1) (v_2 8 2) (v_2 8 3) (v_2 8 4) (v_2 8 5) (v_2 8 6) (v_2 8 7) (v_2 8 8) := hg.trans (congrArg (fun z => z) e_3)
    exact eE_v hC (by show PW G (mdW G q (fX6_pass v x1) hs) H; rw [hg]; exact hP) hS dX6_pass_54
  have L2 : ∀ (n2 d2 : Nat), ∀ (v_2 : SV), d2 + n2 = x1.toNatClampNeg → fX6_pass v x1 = (tX6_pass_2 v x1 (lpF n2 d2 (bX6_pass_2 v x1) v_2)) → SI (v_2 0) → ∀ (H : Heap) (locs : List Loc), PW G (mdW G q v_2 hs) H → va_S (mdA q) s.heap H locs → ∀ (ls : Array Slot), lv_has ls 4 [(0, .ref (q 0)), (1, .int x1), (2, .int (nI d2))] → W p l e ({ frames := 1, cells := 0, slots := 0, locals := 22 }) s m ([.ref (q 0), .int x1] : List Value).toArray below meth c H locs 0 0 (MQ below (QE (none) (fun H => PW G (mdW G q (fX6_pass v x1) hs) H) (mdA q)) ([.ref (q 0), .int x1] : List Value).toArray s 0 0 (mdA q)) (F0 m 2 ls []) := by
    intro n2
    induction n2 with
    | zero =>
      intro d2 v_2 hd hg hI H locs hP hS ls hl
      refine lv_iload_n hC.1 hC.2.1 dX6_pass_2 rfl (lv_at hl 2 rfl) ?_
      refine lv_iload_n hC.1 hC.2.1 dX6_pass_3 rfl (lv_at hl 1 rfl) ?_
      refine lv_icmp_ge (tgt := 43) hC.1 hC.2.1 dX6_pass_4 (by decide) (fun k4 => ?_) (fun k4 => ?_)
      · exact A2  v_2 hg hI _ _ hP hS _ (lv_sub hl [0, 1] rfl)
      · exact absurd (cl_le (by omega) (by have := cl_lt x1; omega)) k4
    | succ n2 ih =>
      intro d2 v_2 hd hg hI H locs hP hS ls hl
      have hg : fX6_pass v x1 = (tX6_pass_2 v x1 (lpF n2 (d2 + 1) (bX6_pass_2 v x1) (bX6_pass_2 v x1 d2 v_2))) := hg
      refine lv_iload_n hC.1 hC.2.1 dX6_pass_2 rfl (lv_at hl 2 rfl) ?_
      refine lv_iload_n hC.1 hC.2.1 dX6_pass_3 rfl (lv_at hl 1 rfl) ?_
      refine lv_icmp_ge (tgt := 43) hC.1 hC.2.1 dX6_pass_4 (by decide) (fun k4 => ?_) (fun k4 => ?_)
      · exact absurd k4 (cl_nle (by omega))
      · refine lv_iconst (v := 0) hC.1 hC.2.1 dX6_pass_7 (by decide) ?_
        refine lv_istore_n (lv' := [(3, .int 0), (0, .ref (q 0)), (1, .int x1), (2, .int (nI d2))]) hC.1 hC.2.1 dX6_pass_8 rfl hl (by decide) rfl (fun ls hl => ?_)
        have A9 : ∀ (v_9 : SV), fX6_pass v x1 = (tX6_pass_2 v x1 (lpF n2 (d2 + 1) (bX6_pass_2 v x1) (tX6_pass_9 v x1 d2 v_9))) → SI (v_9 0) → ∀ (H : Heap) (locs : List Loc), PW G (mdW G q v_9 hs) H → va_S (mdA q) s.heap H locs → ∀ (ls : Array Slot), lv_has ls 4 [(0, .ref (q 0)), (1, .int x1), (2, .int (nI d2))] → W p l e ({ frames := 1, cells := 0, slots := 0, locals := 22 }) s m ([.ref (q 0), .int x1] : List Value).toArray below meth c H locs 0 0 (MQ below (QE (none) (fun H => PW G (mdW G q (fX6_pass v x1) hs) H) (mdA q)) ([.ref (q 0), .int x1] : List Value).toArray s 0 0 (mdA q)) (F0 m 37 ls []) := by
          intro  v_9 hg hI H locs hP hS ls hl
          refine lv_iinc (v := nI (d2 + 1)) (lv' := [(2, .int (nI (d2 + 1))), (0, .ref (q 0)), (1, .int x1)]) hC.1 hC.2.1 dX6_pass_37 hl (k := 2) rfl (nI_1 _) (by decide) rfl (fun ls hl => ?_)
          refine lv_goto (tgt := 2) hC.1 hC.2.1 dX6_pass_40 (by decide) ?_
          have e_4 : tX6_pass_9 v x1 d2 v_9 = v_9 := by exact rfl
          have hg : fX6_pass v x1 = (tX6_pass_2 v x1 (lpF n2 (d2 + 1) (bX6_pass_2 v x1) v_9)) := hg.trans (congrArg (fun z => (tX6_pass_2 v x1 (lpF n2 (d2 + 1) (bX6_pass_2 v x1) z))) e_4)
          exact ih (d2 + 1) v_9 (by omega) hg hI _ _ hP hS _ (lv_sub hl [1, 2, 0] rfl)
        have L9 : ∀ (n9 d9 : Nat), ∀ (v_9 : SV), d9 + n9 = 24 → fX6_pass v x1 = (tX6_pass_2 v x1 (lpF n2 (d2 + 1) (bX6_pass_2 v x1) (tX6_pass_9 v x1 d2 (lpF n9 d9 (bX6_pass_9 v x1 d2) v_9)))) → SI (v_9 0) → ∀ (H : Heap) (locs : List Loc), PW G (mdW G q v_9 hs) H → va_S (mdA q) s.heap H locs → ∀ (ls : Array Slot), lv_has ls 4 [(0, .ref (q 0)), (1, .int x1), (2, .int (nI d2)), (3, .int (nI d9))] → W p l e ({ frames := 1, cells := 0, slots := 0, locals := 22 }) s m ([.ref (q 0), .int x1] : List Value).toArray below meth c H locs 0 0 (MQ below (QE (none) (fun H => PW G (mdW G q (fX6_pass v x1) hs) H) (mdA q)) ([.ref (q 0), .int x1] : List Value).toArray s 0 0 (mdA q)) (F0 m 9 ls []) := by
          intro n9
          induction n9 with
          | zero =>
            intro d9 v_9 hd hg hI H locs hP hS ls hl
            refine lv_iload_n hC.1 hC.2.1 dX6_pass_9 rfl (lv_at hl 3 rfl) ?_
            refine lv_bipush (v := 24) hC.1 hC.2.1 dX6_pass_10 (by decide +kernel) ?_
            refine lv_icmp_ge (tgt := 37) hC.1 hC.2.1 dX6_pass_12 (by decide) (fun k12 => ?_) (fun k12 => ?_)
            · exact A9  v_9 hg hI _ _ hP hS _ (lv_sub hl [0, 1, 2] rfl)
            · exact absurd (nI_le (a := 24) (b := d9) (by omega) (by omega)) k12
          | succ n9 ih =>
            intro d9 v_9 hd hg hI H locs hP hS ls hl
            have hg : fX6_pass v x1 = (tX6_pass_2 v x1 (lpF n2 (d2 + 1) (bX6_pass_2 v x1) (tX6_pass_9 v x1 d2 (lpF n9 (d9 + 1) (bX6_pass_9 v x1 d2) (bX6_pass_9 v x1 d2 d9 v_9))))) := hg
            refine lv_iload_n hC.1 hC.2.1 dX6_pass_9 rfl (lv_at hl 3 rfl) ?_
            refine lv_bipush (v := 24) hC.1 hC.2.1 dX6_pass_10 (by decide +kernel) ?_
            refine lv_icmp_ge (tgt := 37) hC.1 hC.2.1 dX6_pass_12 (by decide) (fun k12 => ?_) (fun k12 => ?_)
            · exact absurd k12 (nI_ge (a := d9) (b := 24) (by omega) (by omega))
            · refine lv_aload_n hC.1 hC.2.1 dX6_pass_15 rfl (lv_at hl 0 rfl) ?_
              refine gf (v := .ref (q 1)) hC fwX6 (hKN.go hAL hS) hP 0 rfl rfl 0 (by decide) rfl wd_887 rfl dX6_pass_16 ?_
              refine lv_iload_n hC.1 hC.2.1 dX6_pass_19 rfl (lv_at hl 3 rfl) ?_
              refine lv_aload_n hC.1 hC.2.1 dX6_pass_20 rfl (lv_at hl 0 rfl) ?_
              refine lv_aload_n hC.1 hC.2.1 dX6_pass_21 rfl (lv_at hl 0 rfl) ?_
              refine gf (v := .ref (q 1)) hC fwX6 (hKN.go hAL hS) hP 0 rfl rfl 0 (by decide) rfl wd_887 rfl dX6_pass_22 ?_
              refine lv_iload_n hC.1 hC.2.1 dX6_pass_25 rfl (lv_at hl 3 rfl) ?_
              refine iald_k hC (hKN.go hAL hS) hP 1 rfl (n := 124) (f := (v_9 0)) d9 (rfl) (by omega) (by decide) dX6_pass_26 ?_
              refine runP (rV (B := fun U H => PW G (mdW G q v_9 hs) H) (As := [.int ((v_9 0) d9)]) (rest := [.int (nI d9), .ref (q 1)]) hC mwX6_cooled (c_X6_cooled l G q v_9 hs ((v_9 0) d9) hI) iwX6_cooled wd_1015 ⟨rfl, rfl⟩ ⟨Nat.le_of_ble_eq_true rfl, Nat.le_of_ble_eq_true rfl⟩ (stb_h (fun H => PW G (mdW G q v_9 hs) H)) (hKN.go hAL hS) hP (va_recv (hKN.go hAL hS).k hP (ci := 6) (q0 := 0) rfl rfl) rfl hl.1 rfl (Nat.le_of_ble_eq_true rfl) dX6_pass_27 ⟨Nat.zero_le _, Nat.zero_le _⟩) ?_
              refine lv_topi (fun w_5 ew_5 => ?_)
              refine iast_k hC (hKN.go hAL hS) hP (mdD_D hq v_9 hs) hS 1 rfl (n := 124) (f := (v_9 0)) d9 (rfl) (by omega) (by decide) dX6_pass_30 (fun H locs hq_6 hS => ?_)
              have hP : PW G (mdW G q (mkM (upd (v_9 0) d9 w_5) (v_9 1) (v_9 2) (v_9 3) (v_9 4) (v_9 5) (v_9 6) (v_9 7) (v_9 8 0) (v_9 8 1) (v_9 8 2) (v_9 8 3) (v_9 8 4) (v_9 8 5) (v_9 8 6) (v_9 8 7) (v_9 8 8)) hs) H := hq_6
              have hI : SI ((mkM (upd (v_9 0) d9 w_5) (v_9 1) (v_9 2) (v_9 3) (v_9 4) (v_9 5) (v_9 6) (v_9 7) (v_9 8 0) (v_9 8 1) (v_9 8 2) (v_9 8 3) (v_9 8 4) (v_9 8 5) (v_9 8 6) (v_9 8 7) (v_9 8 8)) 0) := (SI_upd hI (Or.inl (by omega)))
              refine lv_iinc (v := nI (d9 + 1)) (lv' := [(3, .int (nI (d9 + 1))), (0, .ref (q 0)), (1, .int x1), (2, .int (nI d2))]) hC.1 hC.2.1 dX6_pass_31 hl (k := 3) rfl (nI_1 _) (by decide) rfl (fun ls hl => ?_)
              refine lv_goto (tgt := 9) hC.1 hC.2.1 dX6_pass_34 (by decide) ?_
              have e_7 : bX6_pass_9 v x1 d2 d9 v_9 = mkM (upd (v_9 0) d9 w_5) (v_9 1) (v_9 2) (v_9 3) (v_9 4) (v_9 5) (v_9 6) (v_9 7) (v_9 8 0) (v_9 8 1) (v_9 8 2) (v_9 8 3) (v_9 8 4) (v_9 8 5) (v_9 8 6) (v_9 8 7) (v_9 8 8) := by subst ew_5; exact rfl
              have hg : fX6_pass v x1 = (tX6_pass_2 v x1 (lpF n2 (d2 + 1) (bX6_pass_2 v x1) (tX6_pass_9 v x1 d2 (lpF n9 (d9 + 1) (bX6_pass_9 v x1 d2) (mkM (upd (v_9 0) d9 w_5) (v_9 1) (v_9 2) (v_9 3) (v_9 4) (v_9 5) (v_9 6) (v_9 7) (v_9 8 0) (v_9 8 1) (v_9 8 2) (v_9 8 3) (v_9 8 4) (v_9 8 5) (v_9 8 6) (v_9 8 7) (v_9 8 8)))))) := hg.trans (congrArg (fun z => (tX6_pass_2 v x1 (lpF n2 (d2 + 1) (bX6_pass_2 v x1) (tX6_pass_9 v x1 d2 (lpF n9 (d9 + 1) (bX6_pass_9 v x1 d2) z))))) e_7)
              exact ih (d9 + 1) (mkM (upd (v_9 0) d9 w_5) (v_9 1) (v_9 2) (v_9 3) (v_9 4) (v_9 5) (v_9 6) (v_9 7) (v_9 8 0) (v_9 8 1) (v_9 8 2) (v_9 8 3) (v_9 8 4) (v_9 8 5) (v_9 8 6) (v_9 8 7) (v_9 8 8)) (by omega) hg hI _ _ hP hS _ (lv_sub hl [1, 2, 3, 0] rfl)
        have e_8 : bX6_pass_2 v x1 d2 v_2 = tX6_pass_9 v x1 d2 (lpF 24 0 (bX6_pass_9 v x1 d2) v_2) := by exact rfl
        have hg : fX6_pass v x1 = (tX6_pass_2 v x1 (lpF n2 (d2 + 1) (bX6_pass_2 v x1) (tX6_pass_9 v x1 d2 (lpF 24 0 (bX6_pass_9 v x1 d2) v_2)))) := hg.trans (congrArg (fun z => (tX6_pass_2 v x1 (lpF n2 (d2 + 1) (bX6_pass_2 v x1) z))) e_8)
        exact L9  24 0 v_2 (by omega) hg hI _ _ hP hS _ (lv_sub hl [1, 2, 3, 0] rfl)
  have e_9 : fX6_pass v x1 = tX6_pass_2 v x1 (lpF x1.toNatClampNeg 0 (bX6_pass_2 v x1) v) := by exact rfl
  have hg : fX6_pass v x1 = (tX6_pass_2 v x1 (lpF x1.toNatClampNeg 0 (bX6_pass_2 v x1) v)) := hg.trans (congrArg (fun z => z) e_9)
  exact L2  x1.toNatClampNeg 0 v (by omega) hg hI _ _ hP hS _ (lv_sub hl [1, 2, 0] rfl)

theorem dX6_bit_0 : decode cX6_bit 0 = .ok (.iload_n 1, 1) := by decide +kernel
theorem dX6_bit_1 : decode cX6_bit 1 = .ok (.iconst 0, 1) := by decide +kernel
theorem dX6_bit_2 : decode cX6_bit 2 = .ok (.bipush 23, 2) := by decide +kernel
theorem dX6_bit_4 : decode cX6_bit 4 = .ok (.invokestatic 39, 3) := by decide +kernel
theorem dX6_bit_7 : decode cX6_bit 7 = .ok (.ifCond .eq 11, 3) := by decide +kernel
theorem dX6_bit_10 : decode cX6_bit 10 = .ok (.iload_n 0, 1) := by decide +kernel
theorem dX6_bit_11 : decode cX6_bit 11 = .ok (.iload_n 1, 1) := by decide +kernel
theorem dX6_bit_12 : decode cX6_bit 12 = .ok (.ishr, 1) := by decide +kernel
theorem dX6_bit_13 : decode cX6_bit 13 = .ok (.iconst 1, 1) := by decide +kernel
theorem dX6_bit_14 : decode cX6_bit 14 = .ok (.iand, 1) := by decide +kernel
theorem dX6_bit_15 : decode cX6_bit 15 = .ok (.goto 4, 3) := by decide +kernel
theorem dX6_bit_18 : decode cX6_bit 18 = .ok (.iconst 0, 1) := by decide +kernel
theorem dX6_bit_19 : decode cX6_bit 19 = .ok (.ireturn, 1) := by decide +kernel
set_option maxHeartbeats 1000000 in
set_option maxRecDepth 100000 in
theorem c_X6_bit (l : Launch) (G : GT) (x1 : Int32) (x2 : Int32) : Met l yX6_bit (Cond.code yX6_bit cX6_bit 2 (some .int) :: bigW) ({ frames := 1, cells := 0, slots := 0, locals := 22 }) (BP G [.int x1, .int x2] (fun U H => True)) (QP (.int (fX6_bit x1 x2))) 0 0 (fun _ => False) := by
  refine met_of (by decide) (Nat.le_of_ble_eq_true rfl) ?_
  intro p e s m below meth c ls hC hKN hB0 hl
  have hl : lv_has ls 2 [(0, .int x1), (1, .int x2)] := hl
  have hg : fX6_bit x1 x2 = fX6_bit x1 x2 := rfl
  refine lv_iload_n hC.1 hC.2.1 dX6_bit_0 rfl (lv_at hl 1 rfl) ?_
  refine lv_iconst (v := 0) hC.1 hC.2.1 dX6_bit_1 (by decide) ?_
  refine lv_bipush (v := 23) hC.1 hC.2.1 dX6_bit_2 (by decide +kernel) ?_
  refine runP (rS (B := fun U H => True) (As := [.int x2, .int 0, .int 23]) (rest := []) hC mwX6_in (c_X6_in l G x2 0 23) wd_975 wd_974 ⟨rfl, rfl⟩ ⟨Nat.le_of_ble_eq_true rfl, Nat.le_of_ble_eq_true rfl⟩ (fun _ _ _ _ h => h) hKN trivial rfl hl.1 rfl (Nat.le_of_ble_eq_true rfl) dX6_bit_4 ⟨Nat.zero_le _, Nat.zero_le _⟩) ?_
  refine lv_if_eq (tgt := 18) hC.1 hC.2.1 dX6_bit_7 (by decide) (fun k7 => ?_) (fun k7 => ?_)
  · refine lv_iconst (v := 0) hC.1 hC.2.1 dX6_bit_18 (by decide) ?_
    have e_1 : fX6_bit x1 x2 = 0 := by exact Eq.trans (if_pos k7) rfl
    have hg : fX6_bit x1 x2 = 0 := hg.trans (congrArg (fun z => z) e_1)
    exact eP_i hC (congrArg Value.int hg) dX6_bit_19
  · refine lv_iload_n hC.1 hC.2.1 dX6_bit_10 rfl (lv_at hl 0 rfl) ?_
    refine lv_iload_n hC.1 hC.2.1 dX6_bit_11 rfl (lv_at hl 1 rfl) ?_
    refine lv_ishr hC.1 hC.2.1 dX6_bit_12 ?_
    refine lv_iconst (v := 1) hC.1 hC.2.1 dX6_bit_13 (by decide) ?_
    refine lv_iand hC.1 hC.2.1 dX6_bit_14 ?_
    refine lv_goto (tgt := 19) hC.1 hC.2.1 dX6_bit_15 (by decide) ?_
    have e_2 : fX6_bit x1 x2 = (x1 >>> (x2 &&& 31)) &&& 1 := by exact Eq.trans (if_neg k7) rfl
    have hg : fX6_bit x1 x2 = (x1 >>> (x2 &&& 31)) &&& 1 := hg.trans (congrArg (fun z => z) e_2)
    exact eP_i hC (congrArg Value.int hg) dX6_bit_19

theorem dX6_pulseBy_0 : decode cX6_pulseBy 0 = .ok (.aload_n 0, 1) := by decide +kernel
theorem dX6_pulseBy_1 : decode cX6_pulseBy 1 = .ok (.getfield 7, 3) := by decide +kernel
theorem dX6_pulseBy_4 : decode cX6_pulseBy 4 = .ok (.bipush 81, 2) := by decide +kernel
theorem dX6_pulseBy_6 : decode cX6_pulseBy 6 = .ok (.iaload, 1) := by decide +kernel
theorem dX6_pulseBy_7 : decode cX6_pulseBy 7 = .ok (.ifCond .ne 7, 3) := by decide +kernel
theorem dX6_pulseBy_10 : decode cX6_pulseBy 10 = .ok (.iconst 0, 1) := by decide +kernel
theorem dX6_pulseBy_11 : decode cX6_pulseBy 11 = .ok (.goto 21, 3) := by decide +kernel
theorem dX6_pulseBy_14 : decode cX6_pulseBy 14 = .ok (.aload_n 0, 1) := by decide +kernel
theorem dX6_pulseBy_15 : decode cX6_pulseBy 15 = .ok (.getfield 7, 3) := by decide +kernel
theorem dX6_pulseBy_18 : decode cX6_pulseBy 18 = .ok (.bipush 81, 2) := by decide +kernel
theorem dX6_pulseBy_20 : decode cX6_pulseBy 20 = .ok (.iaload, 1) := by decide +kernel
theorem dX6_pulseBy_21 : decode cX6_pulseBy 21 = .ok (.iconst 1, 1) := by decide +kernel
theorem dX6_pulseBy_22 : decode cX6_pulseBy 22 = .ok (.if_icmp .ne 8, 3) := by decide +kernel
theorem dX6_pulseBy_25 : decode cX6_pulseBy 25 = .ok (.bipush (-15), 2) := by decide +kernel
theorem dX6_pulseBy_27 : decode cX6_pulseBy 27 = .ok (.goto 5, 3) := by decide +kernel
theorem dX6_pulseBy_30 : decode cX6_pulseBy 30 = .ok (.bipush 25, 2) := by decide +kernel
theorem dX6_pulseBy_32 : decode cX6_pulseBy 32 = .ok (.istore 4, 2) := by decide +kernel
theorem dX6_pulseBy_34 : decode cX6_pulseBy 34 = .ok (.iload_n 3, 1) := by decide +kernel
theorem dX6_pulseBy_35 : decode cX6_pulseBy 35 = .ok (.iload 4, 2) := by decide +kernel
theorem dX6_pulseBy_37 : decode cX6_pulseBy 37 = .ok (.iadd, 1) := by decide +kernel
theorem dX6_pulseBy_38 : decode cX6_pulseBy 38 = .ok (.bipush 20, 2) := by decide +kernel
theorem dX6_pulseBy_40 : decode cX6_pulseBy 40 = .ok (.aload_n 0, 1) := by decide +kernel
theorem dX6_pulseBy_41 : decode cX6_pulseBy 41 = .ok (.getfield 7, 3) := by decide +kernel
theorem dX6_pulseBy_44 : decode cX6_pulseBy 44 = .ok (.bipush 24, 2) := by decide +kernel
theorem dX6_pulseBy_46 : decode cX6_pulseBy 46 = .ok (.iaload, 1) := by decide +kernel
theorem dX6_pulseBy_47 : decode cX6_pulseBy 47 = .ok (.iload_n 2, 1) := by decide +kernel
theorem dX6_pulseBy_48 : decode cX6_pulseBy 48 = .ok (.invokestatic 60, 3) := by decide +kernel
theorem dX6_pulseBy_51 : decode cX6_pulseBy 51 = .ok (.imul, 1) := by decide +kernel
theorem dX6_pulseBy_52 : decode cX6_pulseBy 52 = .ok (.isub, 1) := by decide +kernel
theorem dX6_pulseBy_53 : decode cX6_pulseBy 53 = .ok (.bipush 10, 2) := by decide +kernel
theorem dX6_pulseBy_55 : decode cX6_pulseBy 55 = .ok (.aload_n 0, 1) := by decide +kernel
theorem dX6_pulseBy_56 : decode cX6_pulseBy 56 = .ok (.getfield 7, 3) := by decide +kernel
theorem dX6_pulseBy_59 : decode cX6_pulseBy 59 = .ok (.bipush 25, 2) := by decide +kernel
theorem dX6_pulseBy_61 : decode cX6_pulseBy 61 = .ok (.iaload, 1) := by decide +kernel
theorem dX6_pulseBy_62 : decode cX6_pulseBy 62 = .ok (.iload_n 2, 1) := by decide +kernel
theorem dX6_pulseBy_63 : decode cX6_pulseBy 63 = .ok (.invokestatic 60, 3) := by decide +kernel
theorem dX6_pulseBy_66 : decode cX6_pulseBy 66 = .ok (.imul, 1) := by decide +kernel
theorem dX6_pulseBy_67 : decode cX6_pulseBy 67 = .ok (.isub, 1) := by decide +kernel
theorem dX6_pulseBy_68 : decode cX6_pulseBy 68 = .ok (.iconst 5, 1) := by decide +kernel
theorem dX6_pulseBy_69 : decode cX6_pulseBy 69 = .ok (.iload_n 1, 1) := by decide +kernel
theorem dX6_pulseBy_70 : decode cX6_pulseBy 70 = .ok (.iload_n 2, 1) := by decide +kernel
theorem dX6_pulseBy_71 : decode cX6_pulseBy 71 = .ok (.iconst 1, 1) := by decide +kernel
theorem dX6_pulseBy_72 : decode cX6_pulseBy 72 = .ok (.isub, 1) := by decide +kernel
theorem dX6_pulseBy_73 : decode cX6_pulseBy 73 = .ok (.invokestatic 60, 3) := by decide +kernel
theorem dX6_pulseBy_76 : decode cX6_pulseBy 76 = .ok (.iload_n 1, 1) := by decide +kernel
theorem dX6_pulseBy_77 : decode cX6_pulseBy 77 = .ok (.iload_n 2, 1) := by decide +kernel
theorem dX6_pulseBy_78 : decode cX6_pulseBy 78 = .ok (.iconst 1, 1) := by decide +kernel
theorem dX6_pulseBy_79 : decode cX6_pulseBy 79 = .ok (.iadd, 1) := by decide +kernel
theorem dX6_pulseBy_80 : decode cX6_pulseBy 80 = .ok (.invokestatic 60, 3) := by decide +kernel
theorem dX6_pulseBy_83 : decode cX6_pulseBy 83 = .ok (.iadd, 1) := by decide +kernel
theorem dX6_pulseBy_84 : decode cX6_pulseBy 84 = .ok (.imul, 1) := by decide +kernel
theorem dX6_pulseBy_85 : decode cX6_pulseBy 85 = .ok (.isub, 1) := by decide +kernel
theorem dX6_pulseBy_86 : decode cX6_pulseBy 86 = .ok (.istore 5, 2) := by decide +kernel
theorem dX6_pulseBy_88 : decode cX6_pulseBy 88 = .ok (.iload 5, 2) := by decide +kernel
theorem dX6_pulseBy_90 : decode cX6_pulseBy 90 = .ok (.bipush 20, 2) := by decide +kernel
theorem dX6_pulseBy_92 : decode cX6_pulseBy 92 = .ok (.if_icmp .ge 8, 3) := by decide +kernel
theorem dX6_pulseBy_95 : decode cX6_pulseBy 95 = .ok (.bipush 20, 2) := by decide +kernel
theorem dX6_pulseBy_97 : decode cX6_pulseBy 97 = .ok (.goto 5, 3) := by decide +kernel
theorem dX6_pulseBy_100 : decode cX6_pulseBy 100 = .ok (.iload 5, 2) := by decide +kernel
theorem dX6_pulseBy_102 : decode cX6_pulseBy 102 = .ok (.ireturn, 1) := by decide +kernel
set_option maxHeartbeats 1000000 in
set_option maxRecDepth 100000 in
theorem c_X6_pulseBy (l : Launch) (G : GT) (q : Nat → Nat) (v : SV) (hs : Int64) (x1 : Int32) (x2 : Int32) (x3 : Int32) : Met l yX6_pulseBy (Cond.code yX6_pulseBy cX6_pulseBy 6 (some .int) :: bigW) ({ frames := 2, cells := 0, slots := 0, locals := 43 }) (BP G [.ref (q 0), .int x1, .int x2, .int x3] (fun U H => PW G (mdW G q v hs) H)) (QP (.int (fX6_pulseBy v x1 x2 x3))) 0 0 (fun _ => False) := by
  refine met_of (by decide) (Nat.le_of_ble_eq_true rfl) ?_
  intro p e s m below meth c ls hC hKN hB0 hl
  have hP := hB0
  have hl : lv_has ls 6 [(0, .ref (q 0)), (1, .int x1), (2, .int x2), (3, .int x3)] := hl
  have hg : fX6_pulseBy v x1 x2 x3 = fX6_pulseBy v x1 x2 x3 := rfl
  refine lv_aload_n hC.1 hC.2.1 dX6_pulseBy_0 rfl (lv_at hl 0 rfl) ?_
  refine gf (v := .ref (q 1)) hC fwX6 hKN hP 0 rfl rfl 0 (by decide) rfl wd_887 rfl dX6_pulseBy_1 ?_
  refine lv_bipush (v := 81) hC.1 hC.2.1 dX6_pulseBy_4 (by decide +kernel) ?_
  refine iald_k hC hKN hP 1 rfl (n := 124) (f := (v 0)) 81 (rfl) (by omega) (by decide) dX6_pulseBy_6 ?_
  have J32 : ∀ (z0_32 : Int32), fX6_pulseBy v x1 x2 x3 = tX6_pulseBy_J32 v x1 x2 x3 z0_32 → ∀ (ls : Array Slot), lv_has ls 6 [(0, .ref (q 0)), (1, .int x1), (2, .int x2), (3, .int x3)] → W p l e ({ frames := 2, cells := 0, slots := 0, locals := 43 }) s m ([.ref (q 0), .int x1, .int x2, .int x3] : List Value).toArray below meth c s.heap [] 0 0 (MQ below (QP (.int (fX6_pulseBy v x1 x2 x3))) ([.ref (q 0), .int x1, .int x2, .int x3] : List Value).toArray s 0 0 (fun _ => False)) (F0 m 32 ls [.int z0_32]) := by
    intro z0_32 hg ls hl
    refine lv_istore (lv' := [(4, .int z0_32), (0, .ref (q 0)), (1, .int x1), (2, .int x2), (3, .int x3)]) hC.1 hC.2.1 dX6_pulseBy_32 hl (by decide) rfl (fun ls hl => ?_)
    refine lv_iload_n hC.1 hC.2.1 dX6_pulseBy_34 rfl (lv_at hl 4 rfl) ?_
    refine lv_iload hC.1 hC.2.1 dX6_pulseBy_35 (lv_at hl 0 rfl) ?_
    refine lv_iadd hC.1 hC.2.1 dX6_pulseBy_37 ?_
    refine lv_bipush (v := 20) hC.1 hC.2.1 dX6_pulseBy_38 (by decide +kernel) ?_
    refine lv_aload_n hC.1 hC.2.1 dX6_pulseBy_40 rfl (lv_at hl 1 rfl) ?_
    refine gf (v := .ref (q 1)) hC fwX6 hKN hP 0 rfl rfl 0 (by decide) rfl wd_887 rfl dX6_pulseBy_41 ?_
    refine lv_bipush (v := 24) hC.1 hC.2.1 dX6_pulseBy_44 (by decide +kernel) ?_
    refine iald_k hC hKN hP 1 rfl (n := 124) (f := (v 0)) 24 (rfl) (by omega) (by decide) dX6_pulseBy_46 ?_
    refine lv_iload_n hC.1 hC.2.1 dX6_pulseBy_47 rfl (lv_at hl 3 rfl) ?_
    refine runP (rS (B := fun U H => True) (As := [.int ((v 0) 24), .int x2]) (rest := [.int 20, .int (x3 + z0_32)]) hC mwX6_bit (c_X6_bit l G ((v 0) 24) x2) wd_997 wd_996 ⟨rfl, rfl⟩ ⟨Nat.le_of_ble_eq_true rfl, Nat.le_of_ble_eq_true rfl⟩ (fun _ _ _ _ h => h) hKN trivial rfl hl.1 rfl (Nat.le_of_ble_eq_true rfl) dX6_pulseBy_48 ⟨Nat.zero_le _, Nat.zero_le _⟩) ?_
    refine lv_imul hC.1 hC.2.1 dX6_pulseBy_51 ?_
    refine lv_isub hC.1 hC.2.1 dX6_pulseBy_52 ?_
    refine lv_bipush (v := 10) hC.1 hC.2.1 dX6_pulseBy_53 (by decide +kernel) ?_
    refine lv_aload_n hC.1 hC.2.1 dX6_pulseBy_55 rfl (lv_at hl 1 rfl) ?_
    refine gf (v := .ref (q 1)) hC fwX6 hKN hP 0 rfl rfl 0 (by decide) rfl wd_887 rfl dX6_pulseBy_56 ?_
    refine lv_bipush (v := 25) hC.1 hC.2.1 dX6_pulseBy_59 (by decide +kernel) ?_
    refine iald_k hC hKN hP 1 rfl (n := 124) (f := (v 0)) 25 (rfl) (by omega) (by decide) dX6_pulseBy_61 ?_
    refine lv_iload_n hC.1 hC.2.1 dX6_pulseBy_62 rfl (lv_at hl 3 rfl) ?_
    refine runP (rS (B := fun U H => True) (As := [.int ((v 0) 25), .int x2]) (rest := [.int 10, .int ((x3 + z0_32) - (20 * (fX6_bit ((v 0) 24) x2)))]) hC mwX6_bit (c_X6_bit l G ((v 0) 25) x2) wd_997 wd_996 ⟨rfl, rfl⟩ ⟨Nat.le_of_ble_eq_true rfl, Nat.le_of_ble_eq_true rfl⟩ (fun _ _ _ _ h => h) hKN trivial rfl hl.1 rfl (Nat.le_of_ble_eq_true rfl) dX6_pulseBy_63 ⟨Nat.zero_le _, Nat.zero_le _⟩) ?_
    refine lv_imul hC.1 hC.2.1 dX6_pulseBy_66 ?_
    refine lv_isub hC.1 hC.2.1 dX6_pulseBy_67 ?_
    refine lv_iconst (v := 5) hC.1 hC.2.1 dX6_pulseBy_68 (by decide) ?_
    refine lv_iload_n hC.1 hC.2.1 dX6_pulseBy_69 rfl (lv_at hl 2 rfl) ?_
    refine lv_iload_n hC.1 hC.2.1 dX6_pulseBy_70 rfl (lv_at hl 3 rfl) ?_
    refine lv_iconst (v := 1) hC.1 hC.2.1 dX6_pulseBy_71 (by decide) ?_
    refine lv_isub hC.1 hC.2.1 dX6_pulseBy_72 ?_
    refine runP (rS (B := fun U H => True) (As := [.int x1, .int (x2 - 1)]) (rest := [.int 5, .int (((x3 + z0_32) - (20 * (fX6_bit ((v 0) 24) x2))) - (10 * (fX6_bit ((v 0) 25) x2)))]) hC mwX6_bit (c_X6_bit l G x1 (x2 - 1)) wd_997 wd_996 ⟨rfl, rfl⟩ ⟨Nat.le_of_ble_eq_true rfl, Nat.le_of_ble_eq_true rfl⟩ (fun _ _ _ _ h => h) hKN trivial rfl hl.1 rfl (Nat.le_of_ble_eq_true rfl) dX6_pulseBy_73 ⟨Nat.zero_le _, Nat.zero_le _⟩) ?_
    refine lv_iload_n hC.1 hC.2.1 dX6_pulseBy_76 rfl (lv_at hl 2 rfl) ?_
    refine lv_iload_n hC.1 hC.2.1 dX6_pulseBy_77 rfl (lv_at hl 3 rfl) ?_
    refine lv_iconst (v := 1) hC.1 hC.2.1 dX6_pulseBy_78 (by decide) ?_
    refine lv_iadd hC.1 hC.2.1 dX6_pulseBy_79 ?_
    refine runP (rS (B := fun U H => True) (As := [.int x1, .int (x2 + 1)]) (rest := [.int (fX6_bit x1 (x2 - 1)), .int 5, .int (((x3 + z0_32) - (20 * (fX6_bit ((v 0) 24) x2))) - (10 * (fX6_bit ((v 0) 25) x2)))]) hC mwX6_bit (c_X6_bit l G x1 (x2 + 1)) wd_997 wd_996 ⟨rfl, rfl⟩ ⟨Nat.le_of_ble_eq_true rfl, Nat.le_of_ble_eq_true rfl⟩ (fun _ _ _ _ h => h) hKN trivial rfl hl.1 rfl (Nat.le_of_ble_eq_true rfl) dX6_pulseBy_80 ⟨Nat.zero_le _, Nat.zero_le _⟩) ?_
    refine lv_iadd hC.1 hC.2.1 dX6_pulseBy_83 ?_
    refine lv_imul hC.1 hC.2.1 dX6_pulseBy_84 ?_
    refine lv_isub hC.1 hC.2.1 dX6_pulseBy_85 ?_
    refine lv_istore (lv' := [(5, .int ((((x3 + z0_32) - (20 * (fX6_bit ((v 0) 24) x2))) - (10 * (fX6_bit ((v 0) 25) x2))) - (5 * ((fX6_bit x1 (x2 - 1)) + (fX6_bit x1 (x2 + 1)))))), (4, .int z0_32), (0, .ref (q 0)), (1, .int x1), (2, .int x2), (3, .int x3)]) hC.1 hC.2.1 dX6_pulseBy_86 hl (by decide) rfl (fun ls hl => ?_)
    refine lv_iload hC.1 hC.2.1 dX6_pulseBy_88 (lv_at hl 0 rfl) ?_
    refine lv_bipush (v := 20) hC.1 hC.2.1 dX6_pulseBy_90 (by decide +kernel) ?_
    refine lv_icmp_ge (tgt := 100) hC.1 hC.2.1 dX6_pulseBy_92 (by decide) (fun k92 => ?_) (fun k92 => ?_)
    · refine lv_iload hC.1 hC.2.1 dX6_pulseBy_100 (lv_at hl 0 rfl) ?_
      have e_1 : tX6_pulseBy_J32 v x1 x2 x3 z0_32 = (((x3 + z0_32) - (20 * (fX6_bit ((v 0) 24) x2))) - (10 * (fX6_bit ((v 0) 25) x2))) - (5 * ((fX6_bit x1 (x2 - 1)) + (fX6_bit x1 (x2 + 1)))) := by exact Eq.trans (if_pos k92) rfl
      have hg : fX6_pulseBy v x1 x2 x3 = (((x3 + z0_32) - (20 * (fX6_bit ((v 0) 24) x2))) - (10 * (fX6_bit ((v 0) 25) x2))) - (5 * ((fX6_bit x1 (x2 - 1)) + (fX6_bit x1 (x2 + 1)))) := hg.trans (congrArg (fun z => z) e_1)
      exact eP_i hC (congrArg Value.int hg) dX6_pulseBy_102
    · refine lv_bipush (v := 20) hC.1 hC.2.1 dX6_pulseBy_95 (by decide +kernel) ?_
      refine lv_goto (tgt := 102) hC.1 hC.2.1 dX6_pulseBy_97 (by decide) ?_
      have e_2 : tX6_pulseBy_J32 v x1 x2 x3 z0_32 = 20 := by exact Eq.trans (if_neg k92) rfl
      have hg : fX6_pulseBy v x1 x2 x3 = 20 := hg.trans (congrArg (fun z => z) e_2)
      exact eP_i hC (congrArg Value.int hg) dX6_pulseBy_102
  refine lv_if_ne (tgt := 14) hC.1 hC.2.1 dX6_pulseBy_7 (by decide) (fun k7 => ?_) (fun k7 => ?_)
  · refine lv_aload_n hC.1 hC.2.1 dX6_pulseBy_14 rfl (lv_at hl 0 rfl) ?_
    refine gf (v := .ref (q 1)) hC fwX6 hKN hP 0 rfl rfl 0 (by decide) rfl wd_887 rfl dX6_pulseBy_15 ?_
    refine lv_bipush (v := 81) hC.1 hC.2.1 dX6_pulseBy_18 (by decide +kernel) ?_
    refine iald_k hC hKN hP 1 rfl (n := 124) (f := (v 0)) 81 (rfl) (by omega) (by decide) dX6_pulseBy_20 ?_
    refine lv_iconst (v := 1) hC.1 hC.2.1 dX6_pulseBy_21 (by decide) ?_
    refine lv_icmp_ne (tgt := 30) hC.1 hC.2.1 dX6_pulseBy_22 (by decide) (fun k22 => ?_) (fun k22 => ?_)
    · refine lv_bipush (v := 25) hC.1 hC.2.1 dX6_pulseBy_30 (by decide +kernel) ?_
      have e_3 : fX6_pulseBy v x1 x2 x3 = tX6_pulseBy_J32 v x1 x2 x3 25 := by exact Eq.trans (if_neg k7) (Eq.trans (if_neg k22) rfl)
      have hg : fX6_pulseBy v x1 x2 x3 = tX6_pulseBy_J32 v x1 x2 x3 25 := hg.trans (congrArg (fun z => z) e_3)
      exact J32 25 hg _ (lv_sub hl [0, 1, 2, 3] rfl)
    · refine lv_bipush (v := (-15)) hC.1 hC.2.1 dX6_pulseBy_25 (by decide +kernel) ?_
      refine lv_goto (tgt := 32) hC.1 hC.2.1 dX6_pulseBy_27 (by decide) ?_
      have e_4 : fX6_pulseBy v x1 x2 x3 = tX6_pulseBy_J32 v x1 x2 x3 (-15) := by exact Eq.trans (if_neg k7) (Eq.trans (if_pos k22) rfl)
      have hg : fX6_pulseBy v x1 x2 x3 = tX6_pulseBy_J32 v x1 x2 x3 (-15) := hg.trans (congrArg (fun z => z) e_4)
      exact J32 (-15) hg _ (lv_sub hl [0, 1, 2, 3] rfl)
  · refine lv_iconst (v := 0) hC.1 hC.2.1 dX6_pulseBy_10 (by decide) ?_
    refine lv_goto (tgt := 32) hC.1 hC.2.1 dX6_pulseBy_11 (by decide) ?_
    have e_5 : fX6_pulseBy v x1 x2 x3 = tX6_pulseBy_J32 v x1 x2 x3 0 := by exact Eq.trans (if_pos k7) rfl
    have hg : fX6_pulseBy v x1 x2 x3 = tX6_pulseBy_J32 v x1 x2 x3 0 := hg.trans (congrArg (fun z => z) e_5)
    exact J32 0 hg _ (lv_sub hl [0, 1, 2, 3] rfl)

theorem dX6_pulse_0 : decode cX6_pulse 0 = .ok (.aload_n 0, 1) := by decide +kernel
theorem dX6_pulse_1 : decode cX6_pulse 1 = .ok (.iload_n 1, 1) := by decide +kernel
theorem dX6_pulse_2 : decode cX6_pulse 2 = .ok (.iload_n 2, 1) := by decide +kernel
theorem dX6_pulse_3 : decode cX6_pulse 3 = .ok (.aload_n 0, 1) := by decide +kernel
theorem dX6_pulse_4 : decode cX6_pulse 4 = .ok (.getfield 7, 3) := by decide +kernel
theorem dX6_pulse_7 : decode cX6_pulse 7 = .ok (.bipush 74, 2) := by decide +kernel
theorem dX6_pulse_9 : decode cX6_pulse 9 = .ok (.iaload, 1) := by decide +kernel
theorem dX6_pulse_10 : decode cX6_pulse 10 = .ok (.invokevirtual 64, 3) := by decide +kernel
theorem dX6_pulse_13 : decode cX6_pulse 13 = .ok (.ireturn, 1) := by decide +kernel
set_option maxHeartbeats 1000000 in
set_option maxRecDepth 100000 in
theorem c_X6_pulse (l : Launch) (G : GT) (q : Nat → Nat) (v : SV) (hs : Int64) (x1 : Int32) (x2 : Int32) : Met l yX6_pulse (Cond.code yX6_pulse cX6_pulse 3 (some .int) :: bigW) ({ frames := 3, cells := 0, slots := 0, locals := 68 }) (BP G [.ref (q 0), .int x1, .int x2] (fun U H => PW G (mdW G q v hs) H)) (QP (.int (fX6_pulse v x1 x2))) 0 0 (fun _ => False) := by
  refine met_of (by decide) (Nat.le_of_ble_eq_true rfl) ?_
  intro p e s m below meth c ls hC hKN hB0 hl
  have hP := hB0
  have hl : lv_has ls 3 [(0, .ref (q 0)), (1, .int x1), (2, .int x2)] := hl
  have hg : fX6_pulse v x1 x2 = fX6_pulse v x1 x2 := rfl
  refine lv_aload_n hC.1 hC.2.1 dX6_pulse_0 rfl (lv_at hl 0 rfl) ?_
  refine lv_iload_n hC.1 hC.2.1 dX6_pulse_1 rfl (lv_at hl 1 rfl) ?_
  refine lv_iload_n hC.1 hC.2.1 dX6_pulse_2 rfl (lv_at hl 2 rfl) ?_
  refine lv_aload_n hC.1 hC.2.1 dX6_pulse_3 rfl (lv_at hl 0 rfl) ?_
  refine gf (v := .ref (q 1)) hC fwX6 hKN hP 0 rfl rfl 0 (by decide) rfl wd_887 rfl dX6_pulse_4 ?_
  refine lv_bipush (v := 74) hC.1 hC.2.1 dX6_pulse_7 (by decide +kernel) ?_
  refine iald_k hC hKN hP 1 rfl (n := 124) (f := (v 0)) 74 (rfl) (by omega) (by decide) dX6_pulse_9 ?_
  refine runP (rV (B := fun U H => PW G (mdW G q v hs) H) (As := [.int x1, .int x2, .int ((v 0) 74)]) (rest := []) hC mwX6_pulseBy (c_X6_pulseBy l G q v hs x1 x2 ((v 0) 74)) iwX6_pulseBy wd_1007 ⟨rfl, rfl⟩ ⟨Nat.le_of_ble_eq_true rfl, Nat.le_of_ble_eq_true rfl⟩ (stb_h (fun H => PW G (mdW G q v hs) H)) hKN hP (va_recv hKN.k hP (ci := 6) (q0 := 0) rfl rfl) rfl hl.1 rfl (Nat.le_of_ble_eq_true rfl) dX6_pulse_10 ⟨Nat.zero_le _, Nat.zero_le _⟩) ?_
  have e_1 : fX6_pulse v x1 x2 = fX6_pulseBy v x1 x2 ((v 0) 74) := by exact rfl
  have hg : fX6_pulse v x1 x2 = fX6_pulseBy v x1 x2 ((v 0) 74) := hg.trans (congrArg (fun z => z) e_1)
  exact eP_i hC (congrArg Value.int hg) dX6_pulse_13

theorem dX6_darkHeat_0 : decode cX6_darkHeat 0 = .ok (.aload_n 0, 1) := by decide +kernel
theorem dX6_darkHeat_1 : decode cX6_darkHeat 1 = .ok (.getfield 7, 3) := by decide +kernel
theorem dX6_darkHeat_4 : decode cX6_darkHeat 4 = .ok (.bipush 81, 2) := by decide +kernel
theorem dX6_darkHeat_6 : decode cX6_darkHeat 6 = .ok (.iaload, 1) := by decide +kernel
theorem dX6_darkHeat_7 : decode cX6_darkHeat 7 = .ok (.ifCond .ne 8, 3) := by decide +kernel
theorem dX6_darkHeat_10 : decode cX6_darkHeat 10 = .ok (.bipush 110, 2) := by decide +kernel
theorem dX6_darkHeat_12 : decode cX6_darkHeat 12 = .ok (.goto 22, 3) := by decide +kernel
theorem dX6_darkHeat_15 : decode cX6_darkHeat 15 = .ok (.aload_n 0, 1) := by decide +kernel
theorem dX6_darkHeat_16 : decode cX6_darkHeat 16 = .ok (.getfield 7, 3) := by decide +kernel
theorem dX6_darkHeat_19 : decode cX6_darkHeat 19 = .ok (.bipush 81, 2) := by decide +kernel
theorem dX6_darkHeat_21 : decode cX6_darkHeat 21 = .ok (.iaload, 1) := by decide +kernel
theorem dX6_darkHeat_22 : decode cX6_darkHeat 22 = .ok (.iconst 1, 1) := by decide +kernel
theorem dX6_darkHeat_23 : decode cX6_darkHeat 23 = .ok (.if_icmp .ne 8, 3) := by decide +kernel
theorem dX6_darkHeat_26 : decode cX6_darkHeat 26 = .ok (.bipush 90, 2) := by decide +kernel
theorem dX6_darkHeat_28 : decode cX6_darkHeat 28 = .ok (.goto 6, 3) := by decide +kernel
theorem dX6_darkHeat_31 : decode cX6_darkHeat 31 = .ok (.sipush 150, 3) := by decide +kernel
theorem dX6_darkHeat_34 : decode cX6_darkHeat 34 = .ok (.ireturn, 1) := by decide +kernel
set_option maxHeartbeats 1000000 in
set_option maxRecDepth 100000 in
theorem c_X6_darkHeat (l : Launch) (G : GT) (q : Nat → Nat) (v : SV) (hs : Int64) : Met l yX6_darkHeat (Cond.code yX6_darkHeat cX6_darkHeat 1 (some .int) :: bigW) ({ frames := 0, cells := 0, slots := 0, locals := 0 }) (BP G [.ref (q 0)] (fun U H => PW G (mdW G q v hs) H)) (QP (.int (fX6_darkHeat v))) 0 0 (fun _ => False) := by
  refine met_of (by decide) (Nat.le_of_ble_eq_true rfl) ?_
  intro p e s m below meth c ls hC hKN hB0 hl
  have hP := hB0
  have hl : lv_has ls 1 [(0, .ref (q 0))] := hl
  have hg : fX6_darkHeat v = fX6_darkHeat v := rfl
  refine lv_aload_n hC.1 hC.2.1 dX6_darkHeat_0 rfl (lv_at hl 0 rfl) ?_
  refine gf (v := .ref (q 1)) hC fwX6 hKN hP 0 rfl rfl 0 (by decide) rfl wd_887 rfl dX6_darkHeat_1 ?_
  refine lv_bipush (v := 81) hC.1 hC.2.1 dX6_darkHeat_4 (by decide +kernel) ?_
  refine iald_k hC hKN hP 1 rfl (n := 124) (f := (v 0)) 81 (rfl) (by omega) (by decide) dX6_darkHeat_6 ?_
  refine lv_if_ne (tgt := 15) hC.1 hC.2.1 dX6_darkHeat_7 (by decide) (fun k7 => ?_) (fun k7 => ?_)
  · refine lv_aload_n hC.1 hC.2.1 dX6_darkHeat_15 rfl (lv_at hl 0 rfl) ?_
    refine gf (v := .ref (q 1)) hC fwX6 hKN hP 0 rfl rfl 0 (by decide) rfl wd_887 rfl dX6_darkHeat_16 ?_
    refine lv_bipush (v := 81) hC.1 hC.2.1 dX6_darkHeat_19 (by decide +kernel) ?_
    refine iald_k hC hKN hP 1 rfl (n := 124) (f := (v 0)) 81 (rfl) (by omega) (by decide) dX6_darkHeat_21 ?_
    refine lv_iconst (v := 1) hC.1 hC.2.1 dX6_darkHeat_22 (by decide) ?_
    refine lv_icmp_ne (tgt := 31) hC.1 hC.2.1 dX6_darkHeat_23 (by decide) (fun k23 => ?_) (fun k23 => ?_)
    · refine lv_sipush (v := 150) hC.1 hC.2.1 dX6_darkHeat_31 (by decide +kernel) ?_
      have e_1 : fX6_darkHeat v = 150 := by exact Eq.trans (if_neg k7) (Eq.trans (if_neg k23) rfl)
      have hg : fX6_darkHeat v = 150 := hg.trans (congrArg (fun z => z) e_1)
      exact eP_i hC (congrArg Value.int hg) dX6_darkHeat_34
    · refine lv_bipush (v := 90) hC.1 hC.2.1 dX6_darkHeat_26 (by decide +kernel) ?_
      refine lv_goto (tgt := 34) hC.1 hC.2.1 dX6_darkHeat_28 (by decide) ?_
      have e_2 : fX6_darkHeat v = 90 := by exact Eq.trans (if_neg k7) (Eq.trans (if_pos k23) rfl)
      have hg : fX6_darkHeat v = 90 := hg.trans (congrArg (fun z => z) e_2)
      exact eP_i hC (congrArg Value.int hg) dX6_darkHeat_34
  · refine lv_bipush (v := 110) hC.1 hC.2.1 dX6_darkHeat_10 (by decide +kernel) ?_
    refine lv_goto (tgt := 34) hC.1 hC.2.1 dX6_darkHeat_12 (by decide) ?_
    have e_3 : fX6_darkHeat v = 110 := by exact Eq.trans (if_pos k7) rfl
    have hg : fX6_darkHeat v = 110 := hg.trans (congrArg (fun z => z) e_3)
    exact eP_i hC (congrArg Value.int hg) dX6_darkHeat_34

theorem dX6_ones_0 : decode cX6_ones 0 = .ok (.iconst 0, 1) := by decide +kernel
theorem dX6_ones_1 : decode cX6_ones 1 = .ok (.istore_n 1, 1) := by decide +kernel
theorem dX6_ones_2 : decode cX6_ones 2 = .ok (.iconst 0, 1) := by decide +kernel
theorem dX6_ones_3 : decode cX6_ones 3 = .ok (.istore_n 2, 1) := by decide +kernel
theorem dX6_ones_4 : decode cX6_ones 4 = .ok (.iload_n 2, 1) := by decide +kernel
theorem dX6_ones_5 : decode cX6_ones 5 = .ok (.bipush 24, 2) := by decide +kernel
theorem dX6_ones_7 : decode cX6_ones 7 = .ok (.if_icmp .ge 17, 3) := by decide +kernel
theorem dX6_ones_10 : decode cX6_ones 10 = .ok (.iload_n 1, 1) := by decide +kernel
theorem dX6_ones_11 : decode cX6_ones 11 = .ok (.iload_n 0, 1) := by decide +kernel
theorem dX6_ones_12 : decode cX6_ones 12 = .ok (.iload_n 2, 1) := by decide +kernel
theorem dX6_ones_13 : decode cX6_ones 13 = .ok (.ishr, 1) := by decide +kernel
theorem dX6_ones_14 : decode cX6_ones 14 = .ok (.iconst 1, 1) := by decide +kernel
theorem dX6_ones_15 : decode cX6_ones 15 = .ok (.iand, 1) := by decide +kernel
theorem dX6_ones_16 : decode cX6_ones 16 = .ok (.iadd, 1) := by decide +kernel
theorem dX6_ones_17 : decode cX6_ones 17 = .ok (.istore_n 1, 1) := by decide +kernel
theorem dX6_ones_18 : decode cX6_ones 18 = .ok (.iinc 2 1, 3) := by decide +kernel
theorem dX6_ones_21 : decode cX6_ones 21 = .ok (.goto (-17), 3) := by decide +kernel
theorem dX6_ones_24 : decode cX6_ones 24 = .ok (.iload_n 1, 1) := by decide +kernel
theorem dX6_ones_25 : decode cX6_ones 25 = .ok (.ireturn, 1) := by decide +kernel
set_option maxHeartbeats 1000000 in
set_option maxRecDepth 100000 in
theorem c_X6_ones (l : Launch) (G : GT) (x1 : Int32) : Met l yX6_ones (Cond.code yX6_ones cX6_ones 3 (some .int) :: bigW) ({ frames := 0, cells := 0, slots := 0, locals := 0 }) (BP G [.int x1] (fun U H => True)) (QP (.int (fX6_ones x1))) 0 0 (fun _ => False) := by
  refine met_of (by decide) (Nat.le_of_ble_eq_true rfl) ?_
  intro p e s m below meth c ls hC hKN hB0 hl
  have hl : lv_has ls 3 [(0, .int x1)] := hl
  have hg : fX6_ones x1 = fX6_ones x1 := rfl
  refine lv_iconst (v := 0) hC.1 hC.2.1 dX6_ones_0 (by decide) ?_
  refine lv_istore_n (lv' := [(1, .int 0), (0, .int x1)]) hC.1 hC.2.1 dX6_ones_1 rfl hl (by decide) rfl (fun ls hl => ?_)
  refine lv_iconst (v := 0) hC.1 hC.2.1 dX6_ones_2 (by decide) ?_
  refine lv_istore_n (lv' := [(2, .int 0), (1, .int 0), (0, .int x1)]) hC.1 hC.2.1 dX6_ones_3 rfl hl (by decide) rfl (fun ls hl => ?_)
  have A4 : ∀ (y1_4 : Int32), fX6_ones x1 = (tX6_ones_4 x1 y1_4) → ∀ (ls : Array Slot), lv_has ls 3 [(1, .int y1_4)] → W p l e ({ frames := 0, cells := 0, slots := 0, locals := 0 }) s m ([.int x1] : List Value).toArray below meth c s.heap [] 0 0 (MQ below (QP (.int (fX6_ones x1))) ([.int x1] : List Value).toArray s 0 0 (fun _ => False)) (F0 m 24 ls []) := by
    intro  y1_4 hg ls hl
    refine lv_iload_n hC.1 hC.2.1 dX6_ones_24 rfl (lv_at hl 0 rfl) ?_
    have e_1 : tX6_ones_4 x1 y1_4 = y1_4 := by exact rfl
    have hg : fX6_ones x1 = y1_4 := hg.trans (congrArg (fun z => z) e_1)
    exact eP_i hC (congrArg Value.int hg) dX6_ones_25
  have L4 : ∀ (n4 d4 : Nat), ∀ (y1_4 : Int32), d4 + n4 = 24 → fX6_ones x1 = (tX6_ones_4 x1 (lpF n4 d4 (bX6_ones_4 x1) y1_4)) → ∀ (ls : Array Slot), lv_has ls 3 [(0, .int x1), (1, .int y1_4), (2, .int (nI d4))] → W p l e ({ frames := 0, cells := 0, slots := 0, locals := 0 }) s m ([.int x1] : List Value).toArray below meth c s.heap [] 0 0 (MQ below (QP (.int (fX6_ones x1))) ([.int x1] : List Value).toArray s 0 0 (fun _ => False)) (F0 m 4 ls []) := by
    intro n4
    induction n4 with
    | zero =>
      intro d4 y1_4 hd hg ls hl
      refine lv_iload_n hC.1 hC.2.1 dX6_ones_4 rfl (lv_at hl 2 rfl) ?_
      refine lv_bipush (v := 24) hC.1 hC.2.1 dX6_ones_5 (by decide +kernel) ?_
      refine lv_icmp_ge (tgt := 24) hC.1 hC.2.1 dX6_ones_7 (by decide) (fun k7 => ?_) (fun k7 => ?_)
      · exact A4  y1_4 hg _ (lv_sub hl [1] rfl)
      · exact absurd (nI_le (a := 24) (b := d4) (by omega) (by omega)) k7
    | succ n4 ih =>
      intro d4 y1_4 hd hg ls hl
      have hg : fX6_ones x1 = (tX6_ones_4 x1 (lpF n4 (d4 + 1) (bX6_ones_4 x1) (bX6_ones_4 x1 d4 y1_4))) := hg
      refine lv_iload_n hC.1 hC.2.1 dX6_ones_4 rfl (lv_at hl 2 rfl) ?_
      refine lv_bipush (v := 24) hC.1 hC.2.1 dX6_ones_5 (by decide +kernel) ?_
      refine lv_icmp_ge (tgt := 24) hC.1 hC.2.1 dX6_ones_7 (by decide) (fun k7 => ?_) (fun k7 => ?_)
      · exact absurd k7 (nI_ge (a := d4) (b := 24) (by omega) (by omega))
      · refine lv_iload_n hC.1 hC.2.1 dX6_ones_10 rfl (lv_at hl 1 rfl) ?_
        refine lv_iload_n hC.1 hC.2.1 dX6_ones_11 rfl (lv_at hl 0 rfl) ?_
        refine lv_iload_n hC.1 hC.2.1 dX6_ones_12 rfl (lv_at hl 2 rfl) ?_
        refine lv_ishr hC.1 hC.2.1 dX6_ones_13 ?_
        refine lv_iconst (v := 1) hC.1 hC.2.1 dX6_ones_14 (by decide) ?_
        refine lv_iand hC.1 hC.2.1 dX6_ones_15 ?_
        refine lv_iadd hC.1 hC.2.1 dX6_ones_16 ?_
        refine lv_istore_n (lv' := [(1, .int (y1_4 + ((x1 >>> ((nI d4) &&& 31)) &&& 1))), (0, .int x1), (2, .int (nI d4))]) hC.1 hC.2.1 dX6_ones_17 rfl hl (by decide) rfl (fun ls hl => ?_)
        refine lv_iinc (v := nI (d4 + 1)) (lv' := [(2, .int (nI (d4 + 1))), (1, .int (y1_4 + ((x1 >>> ((nI d4) &&& 31)) &&& 1))), (0, .int x1)]) hC.1 hC.2.1 dX6_ones_18 hl (k := 2) rfl (nI_1 _) (by decide) rfl (fun ls hl => ?_)
        refine lv_goto (tgt := 4) hC.1 hC.2.1 dX6_ones_21 (by decide) ?_
        have e_2 : bX6_ones_4 x1 d4 y1_4 = y1_4 + ((x1 >>> ((nI d4) &&& 31)) &&& 1) := by exact rfl
        have hg : fX6_ones x1 = (tX6_ones_4 x1 (lpF n4 (d4 + 1) (bX6_ones_4 x1) (y1_4 + ((x1 >>> ((nI d4) &&& 31)) &&& 1)))) := hg.trans (congrArg (fun z => (tX6_ones_4 x1 (lpF n4 (d4 + 1) (bX6_ones_4 x1) z))) e_2)
        exact ih (d4 + 1) (y1_4 + ((x1 >>> ((nI d4) &&& 31)) &&& 1)) (by omega) hg _ (lv_sub hl [2, 1, 0] rfl)
  have e_3 : fX6_ones x1 = tX6_ones_4 x1 (lpF 24 0 (bX6_ones_4 x1) 0) := by exact rfl
  have hg : fX6_ones x1 = (tX6_ones_4 x1 (lpF 24 0 (bX6_ones_4 x1) 0)) := hg.trans (congrArg (fun z => z) e_3)
  exact L4  24 0 0 (by omega) hg _ (lv_sub hl [2, 1, 0] rfl)
