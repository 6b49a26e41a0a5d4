def tX5_bitsOfDouble_53 (x1 : UInt64) (s : UInt64 × Int64 × Int32) : Int64 := let y2_53 := s.1; let y4_53 := s.2.1; let y6_53 := s.2.2; (y4_53 <<< (Int32.toInt64 52 &&& 63)) + (FP.d2l (FP.dmul (FP.dsub y2_53 FP.dconst1) 4841369599423283200))
def bX5_bitsOfDouble_53 (x1 : UInt64) (s : UInt64 × Int64 × Int32) : Bool × (UInt64 × Int64 × Int32) := let y2_53 := s.1; let y4_53 := s.2.1; let y6_53 := s.2.2; if 1023 ≤ y6_53 then ((false, (y2_53, y4_53, y6_53))) else (if (Op.cmpValue (FP.dcmp y2_53 4611686018427387904) .l) < 0 then ((false, (y2_53, y4_53, y6_53))) else ((true, (FP.ddiv y2_53 4611686018427387904, y4_53 + 1, y6_53 + 1))))
def tX5_bitsOfDouble_18 (x1 : UInt64) (s : UInt64 × Int64 × Int32) : Int64 := let y2_18 := s.1; let y4_18 := s.2.1; let y6_18 := s.2.2; tX5_bitsOfDouble_53 x1 (lpB (mB + 1) (bX5_bitsOfDouble_53 x1) (y2_18, y4_18, 0))
def bX5_bitsOfDouble_18 (x1 : UInt64) (s : UInt64 × Int64 × Int32) : Bool × (UInt64 × Int64 × Int32) := let y2_18 := s.1; let y4_18 := s.2.1; let y6_18 := s.2.2; if 1023 ≤ y6_18 then ((false, (y2_18, y4_18, y6_18))) else (if 0 ≤ (Op.cmpValue (FP.dcmp y2_18 FP.dconst1) .g) then ((false, (y2_18, y4_18, y6_18))) else ((true, (FP.dmul y2_18 4611686018427387904, y4_18 - 1, y6_18 + 1))))
def fX5_bitsOfDouble (x1 : UInt64) : Int64 := if 0 < (Op.cmpValue (FP.dcmp x1 FP.dconst0) .l) then (tX5_bitsOfDouble_18 x1 (lpB (mB + 1) (bX5_bitsOfDouble_18 x1) (x1, 1023, 0))) else (0)
def tX5_bitsOfFloat_42 (x1 : UInt32) (s : UInt32 × Int32 × Int32) : Int32 := let y1_42 := s.1; let y2_42 := s.2.1; let y3_42 := s.2.2; (y2_42 <<< (23 &&& 31)) + (FP.f2i (FP.fmul (FP.fsub y1_42 FP.fconst1) 1258291200))
def bX5_bitsOfFloat_42 (x1 : UInt32) (s : UInt32 × Int32 × Int32) : Bool × (UInt32 × Int32 × Int32) := let y1_42 := s.1; let y2_42 := s.2.1; let y3_42 := s.2.2; if 127 ≤ y3_42 then ((false, (y1_42, y2_42, y3_42))) else (if (Op.cmpValue (FP.fcmp y1_42 FP.fconst2) .l) < 0 then ((false, (y1_42, y2_42, y3_42))) else ((true, (FP.fdiv y1_42 FP.fconst2, y2_42 + 1, y3_42 + 1))))
def tX5_bitsOfFloat_15 (x1 : UInt32) (s : UInt32 × Int32 × Int32) : Int32 := let y1_15 := s.1; let y2_15 := s.2.1; let y3_15 := s.2.2; tX5_bitsOfFloat_42 x1 (lpB (mC + 1) (bX5_bitsOfFloat_42 x1) (y1_15, y2_15, 0))
def bX5_bitsOfFloat_15 (x1 : UInt32) (s : UInt32 × Int32 × Int32) : Bool × (UInt32 × Int32 × Int32) := let y1_15 := s.1; let y2_15 := s.2.1; let y3_15 := s.2.2; if 127 ≤ y3_15 then ((false, (y1_15, y2_15, y3_15))) else (if 0 ≤ (Op.cmpValue (FP.fcmp y1_15 FP.fconst1) .g) then ((false, (y1_15, y2_15, y3_15))) else ((true, (FP.fmul y1_15 FP.fconst2, y2_15 + (-1), y3_15 + 1))))
def fX5_bitsOfFloat (x1 : UInt32) : Int32 := if 0 < (Op.cmpValue (FP.fcmp x1 FP.fconst0) .l) then (tX5_bitsOfFloat_15 x1 (lpB (mC + 1) (bX5_bitsOfFloat_15 x1) (x1, 127, 0))) else (0)
theorem v2d : FP.Core.val64 4611686018427387904 = .fin false 4503599627370496 (-51) := by decide +kernel
theorem v2f : FP.Core.val32 FP.fconst2 = .fin false 8388608 (-22) := by decide +kernel
theorem v1d : FP.Core.val64 FP.dconst1 = .fin false 4503599627370496 (-52) := FP.Core.val64_dconst1
theorem v1f : FP.Core.val32 FP.fconst1 = .fin false 8388608 (-23) := FP.Core.val32_fconst1
theorem vcd : FP.Core.val64 4841369599423283200 = .fin false 4503599627370496 0 := by decide +kernel
theorem vcf : FP.Core.val32 1258291200 = .fin false 8388608 0 := by decide +kernel
theorem dz_of {x : UInt64} {s : Bool} {c : Nat} {q : Int} (e : FP.Core.val64 x = .fin s c q) (h : ¬ c = 0) : ¬ FP.Core.DZero x := by
  rintro ⟨s2, q2, e2⟩
  rw [e] at e2
  cases e2
  exact h rfl
theorem fz_of {x : UInt32} {s : Bool} {c : Nat} {q : Int} (e : FP.Core.val32 x = .fin s c q) (h : ¬ c = 0) : ¬ FP.Core.FZero x := by
  rintro ⟨s2, q2, e2⟩
  rw [e] at e2
  cases e2
  exact h rfl
theorem dmul2_nn {x : UInt64} (h : FP.dIsNaN x = false) : FP.dIsNaN (FP.dmul x 4611686018427387904) = false := FP.Core.dmul_out' h ⟨_, _, _, v2d⟩ (dz_of v2d (by decide))
theorem ddiv2_nn {x : UInt64} (h : FP.dIsNaN x = false) : FP.dIsNaN (FP.ddiv x 4611686018427387904) = false := FP.Core.ddiv_out h ⟨_, _, _, v2d⟩ (dz_of v2d (by decide))
theorem dsub1_nn {x : UInt64} (h : FP.dIsNaN x = false) : FP.dIsNaN (FP.dsub x FP.dconst1) = false := FP.Core.dsub_out h ⟨_, _, _, v1d⟩
theorem dmulc_nn {x : UInt64} (h : FP.dIsNaN x = false) : FP.dIsNaN (FP.dmul x 4841369599423283200) = false := FP.Core.dmul_out' h ⟨_, _, _, vcd⟩ (dz_of vcd (by decide))
theorem fmul2_nn {x : UInt32} (h : FP.fIsNaN x = false) : FP.fIsNaN (FP.fmul x FP.fconst2) = false := FP.Core.fmul_out' h ⟨_, _, _, v2f⟩ (fz_of v2f (by decide))
theorem fdiv2_nn {x : UInt32} (h : FP.fIsNaN x = false) : FP.fIsNaN (FP.fdiv x FP.fconst2) = false := FP.Core.fdiv_out h ⟨_, _, _, v2f⟩ (fz_of v2f (by decide))
theorem fsub1_nn {x : UInt32} (h : FP.fIsNaN x = false) : FP.fIsNaN (FP.fsub x FP.fconst1) = false := FP.Core.fsub_out h ⟨_, _, _, v1f⟩
theorem fmulc_nn {x : UInt32} (h : FP.fIsNaN x = false) : FP.fIsNaN (FP.fmul x 1258291200) = false := FP.Core.fmul_out' h ⟨_, _, _, vcf⟩ (fz_of vcf (by decide))
theorem pos_nn {x : UInt64} (h : (0 : Int32) < Op.cmpValue (FP.dcmp x FP.dconst0) .l) : FP.dIsNaN x = false := by
  cases hc : FP.dcmp x FP.dconst0 with
  | none => rw [hc] at h; exact absurd h (by decide)
  | some o => exact (FP.Core.dcmp_notNaN hc).1
theorem pos_nnf {x : UInt32} (h : (0 : Int32) < Op.cmpValue (FP.fcmp x FP.fconst0) .l) : FP.fIsNaN x = false := by
  cases hc : FP.fcmp x FP.fconst0 with
  | none => rw [hc] at h; exact absurd h (by decide)
  | some o => exact (FP.Core.fcmp_notNaN hc).1
theorem T_bD18 (x1 y2 : UInt64) (y4 : Int64) : lpT (mB + 1) (bX5_bitsOfDouble_18 x1) (y2, y4, 0) := by
  have key : ∀ (n k : Nat) (y2 : UInt64) (y4 : Int64), k + n = 1023 → lpT (n + 1) (bX5_bitsOfDouble_18 x1) (y2, y4, nI k) := by
    intro n
    induction n with
    | zero =>
      intro k y2 y4 h
      have e : (1023 : Int32) ≤ nI k := nI_le (a := 1023) (by omega) (by omega)
      refine Or.inl ?_
      unfold bX5_bitsOfDouble_18
      dsimp only
      rw [if_pos e]
    | succ n ih =>
      intro k y2 y4 h
      have e : ¬ (1023 : Int32) ≤ nI k := nI_ge (b := 1023) (by omega) (by omega)
      by_cases q : 0 ≤ Op.cmpValue (FP.dcmp y2 FP.dconst1) .g
      · refine Or.inl ?_
        unfold bX5_bitsOfDouble_18
        dsimp only
        rw [if_neg e, if_pos q]
      · refine Or.inr ?_
        have e2 : ∃ a b, bX5_bitsOfDouble_18 x1 (y2, y4, nI k) = (true, (a, b, nI (k + 1))) := by
          unfold bX5_bitsOfDouble_18
          dsimp only
          rw [if_neg e, if_neg q, nI_1]
          exact ⟨_, _, rfl⟩
        obtain ⟨a, b, e2⟩ := e2
        rw [e2]
        exact ih (k + 1) a b (by omega)
  have h0 := key mB 0 y2 y4 rfl
  rw [nI_0] at h0
  exact h0
theorem T_bD53 (x1 y2 : UInt64) (y4 : Int64) : lpT (mB + 1) (bX5_bitsOfDouble_53 x1) (y2, y4, 0) := by
  have key : ∀ (n k : Nat) (y2 : UInt64) (y4 : Int64), k + n = 1023 → lpT (n + 1) (bX5_bitsOfDouble_53 x1) (y2, y4, nI k) := by
    intro n
    induction n with
    | zero =>
      intro k y2 y4 h
      have e : (1023 : Int32) ≤ nI k := nI_le (a := 1023) (by omega) (by omega)
      refine Or.inl ?_
      unfold bX5_bitsOfDouble_53
      dsimp only
      rw [if_pos e]
    | succ n ih =>
      intro k y2 y4 h
      have e : ¬ (1023 : Int32) ≤ nI k := nI_ge (b := 1023) (by omega) (by omega)
      by_cases q : Op.cmpValue (FP.dcmp y2 4611686018427387904) .l < 0
      · refine Or.inl ?_
        unfold bX5_bitsOfDouble_53
        dsimp only
        rw [if_neg e, if_pos q]
      · refine Or.inr ?_
        have e2 : ∃ a b, bX5_bitsOfDouble_53 x1 (y2, y4, nI k) = (true, (a, b, nI (k + 1))) := by
          unfold bX5_bitsOfDouble_53
          dsimp only
          rw [if_neg e, if_neg q, nI_1]
          exact ⟨_, _, rfl⟩
        obtain ⟨a, b, e2⟩ := e2
        rw [e2]
        exact ih (k + 1) a b (by omega)
  have h0 := key mB 0 y2 y4 rfl
  rw [nI_0] at h0
  exact h0
theorem T_bF15 (x1 y1 : UInt32) (y2 : Int32) : lpT (mC + 1) (bX5_bitsOfFloat_15 x1) (y1, y2, 0) := by
  have key : ∀ (n k : Nat) (y1 : UInt32) (y2 : Int32), k + n = 127 → lpT (n + 1) (bX5_bitsOfFloat_15 x1) (y1, y2, nI k) := by
    intro n
    induction n with
    | zero =>
      intro k y2 y4 h
      have e : (127 : Int32) ≤ nI k := nI_le (a := 127) (by omega) (by omega)
      refine Or.inl ?_
      unfold bX5_bitsOfFloat_15
      dsimp only
      rw [if_pos e]
    | succ n ih =>
      intro k y2 y4 h
      have e : ¬ (127 : Int32) ≤ nI k := nI_ge (b := 127) (by omega) (by omega)
      by_cases q : 0 ≤ Op.cmpValue (FP.fcmp y2 FP.fconst1) .g
      · refine Or.inl ?_
        unfold bX5_bitsOfFloat_15
        dsimp only
        rw [if_neg e, if_pos q]
      · refine Or.inr ?_
        have e2 : ∃ a b, bX5_bitsOfFloat_15 x1 (y2, y4, nI k) = (true, (a, b, nI (k + 1))) := by
          unfold bX5_bitsOfFloat_15
          dsimp only
          rw [if_neg e, if_neg q, nI_1]
          exact ⟨_, _, rfl⟩
        obtain ⟨a, b, e2⟩ := e2
        rw [e2]
        exact ih (k + 1) a b (by omega)
  have h0 := key mC 0 y1 y2 rfl
  rw [nI_0] at h0
  exact h0
theorem T_bF42 (x1 y1 : UInt32) (y2 : Int32) : lpT (mC + 1) (bX5_bitsOfFloat_42 x1) (y1, y2, 0) := by
  have key : ∀ (n k : Nat) (y1 : UInt32) (y2 : Int32), k + n = 127 → lpT (n + 1) (bX5_bitsOfFloat_42 x1) (y1, y2, nI k) := by
    intro n
    induction n with
    | zero =>
      intro k y2 y4 h
      have e : (127 : Int32) ≤ nI k := nI_le (a := 127) (by omega) (by omega)
      refine Or.inl ?_
      unfold bX5_bitsOfFloat_42
      dsimp only
      rw [if_pos e]
    | succ n ih =>
      intro k y2 y4 h
      have e : ¬ (127 : Int32) ≤ nI k := nI_ge (b := 127) (by omega) (by omega)
      by_cases q : Op.cmpValue (FP.fcmp y2 FP.fconst2) .l < 0
      · refine Or.inl ?_
        unfold bX5_bitsOfFloat_42
        dsimp only
        rw [if_neg e, if_pos q]
      · refine Or.inr ?_
        have e2 : ∃ a b, bX5_bitsOfFloat_42 x1 (y2, y4, nI k) = (true, (a, b, nI (k + 1))) := by
          unfold bX5_bitsOfFloat_42
          dsimp only
          rw [if_neg e, if_neg q, nI_1]
          exact ⟨_, _, rfl⟩
        obtain ⟨a, b, e2⟩ := e2
        rw [e2]
        exact ih (k + 1) a b (by omega)
  have h0 := key mC 0 y1 y2 rfl
  rw [nI_0] at h0
  exact h0
theorem dX5_bitsOfDouble_0 : decode cX5_bitsOfDouble 0 = .ok (.dload_n 0, 1) := by decide +kernel
theorem dX5_bitsOfDouble_1 : decode cX5_bitsOfDouble 1 = .ok (.dconst 0, 1) := by decide +kernel
theorem dX5_bitsOfDouble_2 : decode cX5_bitsOfDouble 2 = .ok (.dcmp .l, 1) := by decide +kernel
theorem dX5_bitsOfDouble_3 : decode cX5_bitsOfDouble 3 = .ok (.ifCond .gt 5, 3) := by decide +kernel
theorem dX5_bitsOfDouble_6 : decode cX5_bitsOfDouble 6 = .ok (.lconst 0, 1) := by decide +kernel
theorem dX5_bitsOfDouble_7 : decode cX5_bitsOfDouble 7 = .ok (.lreturn, 1) := by decide +kernel
theorem dX5_bitsOfDouble_8 : decode cX5_bitsOfDouble 8 = .ok (.dload_n 0, 1) := by decide +kernel
theorem dX5_bitsOfDouble_9 : decode cX5_bitsOfDouble 9 = .ok (.dstore_n 2, 1) := by decide +kernel
theorem dX5_bitsOfDouble_10 : decode cX5_bitsOfDouble 10 = .ok (.ldc2_w 306, 3) := by decide +kernel
theorem dX5_bitsOfDouble_13 : decode cX5_bitsOfDouble 13 = .ok (.lstore 4, 2) := by decide +kernel
theorem dX5_bitsOfDouble_15 : decode cX5_bitsOfDouble 15 = .ok (.iconst 0, 1) := by decide +kernel
theorem dX5_bitsOfDouble_16 : decode cX5_bitsOfDouble 16 = .ok (.istore 6, 2) := by decide +kernel
theorem dX5_bitsOfDouble_18 : decode cX5_bitsOfDouble 18 = .ok (.iload 6, 2) := by decide +kernel
theorem dX5_bitsOfDouble_20 : decode cX5_bitsOfDouble 20 = .ok (.sipush 1023, 3) := by decide +kernel
theorem dX5_bitsOfDouble_23 : decode cX5_bitsOfDouble 23 = .ok (.if_icmp .ge 27, 3) := by decide +kernel
theorem dX5_bitsOfDouble_26 : decode cX5_bitsOfDouble 26 = .ok (.dload_n 2, 1) := by decide +kernel
theorem dX5_bitsOfDouble_27 : decode cX5_bitsOfDouble 27 = .ok (.dconst 1, 1) := by decide +kernel
theorem dX5_bitsOfDouble_28 : decode cX5_bitsOfDouble 28 = .ok (.dcmp .g, 1) := by decide +kernel
theorem dX5_bitsOfDouble_29 : decode cX5_bitsOfDouble 29 = .ok (.ifCond .ge 21, 3) := by decide +kernel
theorem dX5_bitsOfDouble_32 : decode cX5_bitsOfDouble 32 = .ok (.dload_n 2, 1) := by decide +kernel
theorem dX5_bitsOfDouble_33 : decode cX5_bitsOfDouble 33 = .ok (.ldc2_w 308, 3) := by decide +kernel
theorem dX5_bitsOfDouble_36 : decode cX5_bitsOfDouble 36 = .ok (.dmul, 1) := by decide +kernel
theorem dX5_bitsOfDouble_37 : decode cX5_bitsOfDouble 37 = .ok (.dstore_n 2, 1) := by decide +kernel
theorem dX5_bitsOfDouble_38 : decode cX5_bitsOfDouble 38 = .ok (.lload 4, 2) := by decide +kernel
theorem dX5_bitsOfDouble_40 : decode cX5_bitsOfDouble 40 = .ok (.lconst 1, 1) := by decide +kernel
theorem dX5_bitsOfDouble_41 : decode cX5_bitsOfDouble 41 = .ok (.lsub, 1) := by decide +kernel
theorem dX5_bitsOfDouble_42 : decode cX5_bitsOfDouble 42 = .ok (.lstore 4, 2) := by decide +kernel
theorem dX5_bitsOfDouble_44 : decode cX5_bitsOfDouble 44 = .ok (.iinc 6 1, 3) := by decide +kernel
theorem dX5_bitsOfDouble_47 : decode cX5_bitsOfDouble 47 = .ok (.goto (-29), 3) := by decide +kernel
theorem dX5_bitsOfDouble_50 : decode cX5_bitsOfDouble 50 = .ok (.iconst 0, 1) := by decide +kernel
theorem dX5_bitsOfDouble_51 : decode cX5_bitsOfDouble 51 = .ok (.istore 6, 2) := by decide +kernel
theorem dX5_bitsOfDouble_53 : decode cX5_bitsOfDouble 53 = .ok (.iload 6, 2) := by decide +kernel
theorem dX5_bitsOfDouble_55 : decode cX5_bitsOfDouble 55 = .ok (.sipush 1023, 3) := by decide +kernel
theorem dX5_bitsOfDouble_58 : decode cX5_bitsOfDouble 58 = .ok (.if_icmp .ge 29, 3) := by decide +kernel
theorem dX5_bitsOfDouble_61 : decode cX5_bitsOfDouble 61 = .ok (.dload_n 2, 1) := by decide +kernel
theorem dX5_bitsOfDouble_62 : decode cX5_bitsOfDouble 62 = .ok (.ldc2_w 308, 3) := by decide +kernel
theorem dX5_bitsOfDouble_65 : decode cX5_bitsOfDouble 65 = .ok (.dcmp .l, 1) := by decide +kernel
theorem dX5_bitsOfDouble_66 : decode cX5_bitsOfDouble 66 = .ok (.ifCond .lt 21, 3) := by decide +kernel
theorem dX5_bitsOfDouble_69 : decode cX5_bitsOfDouble 69 = .ok (.dload_n 2, 1) := by decide +kernel
theorem dX5_bitsOfDouble_70 : decode cX5_bitsOfDouble 70 = .ok (.ldc2_w 308, 3) := by decide +kernel
theorem dX5_bitsOfDouble_73 : decode cX5_bitsOfDouble 73 = .ok (.ddiv, 1) := by decide +kernel
theorem dX5_bitsOfDouble_74 : decode cX5_bitsOfDouble 74 = .ok (.dstore_n 2, 1) := by decide +kernel
theorem dX5_bitsOfDouble_75 : decode cX5_bitsOfDouble 75 = .ok (.lload 4, 2) := by decide +kernel
theorem dX5_bitsOfDouble_77 : decode cX5_bitsOfDouble 77 = .ok (.lconst 1, 1) := by decide +kernel
theorem dX5_bitsOfDouble_78 : decode cX5_bitsOfDouble 78 = .ok (.ladd, 1) := by decide +kernel
theorem dX5_bitsOfDouble_79 : decode cX5_bitsOfDouble 79 = .ok (.lstore 4, 2) := by decide +kernel
theorem dX5_bitsOfDouble_81 : decode cX5_bitsOfDouble 81 = .ok (.iinc 6 1, 3) := by decide +kernel
theorem dX5_bitsOfDouble_84 : decode cX5_bitsOfDouble 84 = .ok (.goto (-31), 3) := by decide +kernel
theorem dX5_bitsOfDouble_87 : decode cX5_bitsOfDouble 87 = .ok (.lload 4, 2) := by decide +kernel
theorem dX5_bitsOfDouble_89 : decode cX5_bitsOfDouble 89 = .ok (.bipush 52, 2) := by decide +kernel
theorem dX5_bitsOfDouble_91 : decode cX5_bitsOfDouble 91 = .ok (.lshl, 1) := by decide +kernel
theorem dX5_bitsOfDouble_92 : decode cX5_bitsOfDouble 92 = .ok (.dload_n 2, 1) := by decide +kernel
theorem dX5_bitsOfDouble_93 : decode cX5_bitsOfDouble 93 = .ok (.dconst 1, 1) := by decide +kernel
theorem dX5_bitsOfDouble_94 : decode cX5_bitsOfDouble 94 = .ok (.dsub, 1) := by decide +kernel
theorem dX5_bitsOfDouble_95 : decode cX5_bitsOfDouble 95 = .ok (.ldc2_w 310, 3) := by decide +kernel
theorem dX5_bitsOfDouble_98 : decode cX5_bitsOfDouble 98 = .ok (.dmul, 1) := by decide +kernel
theorem dX5_bitsOfDouble_99 : decode cX5_bitsOfDouble 99 = .ok (.d2l, 1) := by decide +kernel
theorem dX5_bitsOfDouble_100 : decode cX5_bitsOfDouble 100 = .ok (.ladd, 1) := by decide +kernel
theorem dX5_bitsOfDouble_101 : decode cX5_bitsOfDouble 101 = .ok (.lreturn, 1) := by decide +kernel
set_option maxHeartbeats 1000000 in
set_option maxRecDepth 100000 in
theorem c_X5_bitsOfDouble (l : Launch) (G : GT) (x1 : UInt64) : Met l yX5_bitsOfDouble (Cond.code yX5_bitsOfDouble cX5_bitsOfDouble 7 (some .long) :: bigW) ({ frames := 0, cells := 0, slots := 0, locals := 0 }) (BP G [.double x1] (fun U H => True)) (QP (.long (fX5_bitsOfDouble x1))) 0 0 (fun _ => False) := by
  refine met_of (by decide) (Nat.le_of_ble_eq_true rfl) ?_
  intro p e s m below meth c ls hC hKN hB0 hl
  have hl : lv_has ls 7 [(0, .double x1)] := hl
  have hg : fX5_bitsOfDouble x1 = fX5_bitsOfDouble x1 := rfl
  refine lv_dload_n hC.1 hC.2.1 dX5_bitsOfDouble_0 rfl (lv_at hl 0 rfl) ?_
  refine lv_dconst0 hC.1 hC.2.1 dX5_bitsOfDouble_1 ?_
  refine lv_dcmp hC.1 hC.2.1 dX5_bitsOfDouble_2 ?_
  refine lv_if_gt (tgt := 8) hC.1 hC.2.1 dX5_bitsOfDouble_3 (by decide) (fun k3 => ?_) (fun k3 => ?_)
  · refine lv_dload_n hC.1 hC.2.1 dX5_bitsOfDouble_8 rfl (lv_at hl 0 rfl) ?_
    refine lv_dstore_n (lv' := [(2, .double x1), (0, .double x1)]) hC.1 hC.2.1 dX5_bitsOfDouble_9 rfl hl (by decide) rfl (fun ls hl => ?_)
    refine lv_ldc2 (v := 1023) hC.1 hC.2.1 hC.2.2.2.2.1 (hC.2.2.2.2.2.2.1 _ wd_585) dX5_bitsOfDouble_10 ?_
    refine lv_lstore (lv' := [(4, .long 1023), (2, .double x1), (0, .double x1)]) hC.1 hC.2.1 dX5_bitsOfDouble_13 hl (by decide) rfl (fun ls hl => ?_)
    refine lv_iconst (v := 0) hC.1 hC.2.1 dX5_bitsOfDouble_15 (by decide) ?_
    refine lv_istore (lv' := [(6, .int 0), (4, .long 1023), (2, .double x1), (0, .double x1)]) hC.1 hC.2.1 dX5_bitsOfDouble_16 hl (by decide) rfl (fun ls hl => ?_)
    have A18 : ∀ (y2_18 : UInt64) (y4_18 : Int64) (y6_18 : Int32), fX5_bitsOfDouble x1 = (tX5_bitsOfDouble_18 x1 (y2_18, y4_18, y6_18)) → FP.dIsNaN y2_18 = false → ∀ (ls : Array Slot), lv_has ls 7 [(2, .double y2_18), (4, .long y4_18)] → W p l e ({ frames := 0, cells := 0, slots := 0, locals := 0 }) s m ([.double x1] : List Value).toArray below meth c s.heap [] 0 0 (MQ below (QP (.long (fX5_bitsOfDouble x1))) ([.double x1] : List Value).toArray s 0 0 (fun _ => False)) (F0 m 50 ls []) := by
      intro  y2_18 y4_18 y6_18 hg hI ls hl
      refine lv_iconst (v := 0) hC.1 hC.2.1 dX5_bitsOfDouble_50 (by decide) ?_
      refine lv_istore (lv' := [(6, .int 0), (2, .double y2_18), (4, .long y4_18)]) hC.1 hC.2.1 dX5_bitsOfDouble_51 hl (by decide) rfl (fun ls hl => ?_)
      have A53 : ∀ (y2_53 : UInt64) (y4_53 : Int64) (y6_53 : Int32), fX5_bitsOfDouble x1 = (tX5_bitsOfDouble_53 x1 (y2_53, y4_53, y6_53)) → FP.dIsNaN y2_53 = false → ∀ (ls : Array Slot), lv_has ls 7 [(2, .double y2_53), (4, .long y4_53)] → W p l e ({ frames := 0, cells := 0, slots := 0, locals := 0 }) s m ([.double x1] : List Value).toArray below meth c s.heap [] 0 0 (MQ below (QP (.long (fX5_bitsOfDouble x1))) ([.double x1] : List Value).toArray s 0 0 (fun _ => False)) (F0 m 87 ls []) := by
        intro  y2_53 y4_53 y6_53 hg hI ls hl
        refine lv_lload hC.1 hC.2.1 dX5_bitsOfDouble_87 (lv_at hl 1 rfl) ?_
        refine lv_bipush (v := 52) hC.1 hC.2.1 dX5_bitsOfDouble_89 (by decide +kernel) ?_
        refine lv_lshl (v := y4_53 <<< (Int32.toInt64 52 &&& 63)) hC.1 hC.2.1 dX5_bitsOfDouble_91 rfl ?_
        refine lv_dload_n hC.1 hC.2.1 dX5_bitsOfDouble_92 rfl (lv_at hl 0 rfl) ?_
        refine lv_dconst1 hC.1 hC.2.1 dX5_bitsOfDouble_93 ?_
        refine lv_dsub hC.1 hC.2.1 dX5_bitsOfDouble_94 (n64_of (dsub1_nn hI)) ?_
        refine lv_ldc2d (v := 4841369599423283200) hC.1 hC.2.1 hC.2.2.2.2.1 (hC.2.2.2.2.2.2.1 _ wd_587) dX5_bitsOfDouble_95 ?_
        refine lv_dmul hC.1 hC.2.1 dX5_bitsOfDouble_98 (n64_of (dmulc_nn (dsub1_nn hI))) ?_
        refine lv_d2l hC.1 hC.2.1 dX5_bitsOfDouble_99 ?_
        refine lv_ladd hC.1 hC.2.1 dX5_bitsOfDouble_100 ?_
        have e_1 : tX5_bitsOfDouble_53 x1 (y2_53, y4_53, y6_53) = (y4_53 <<< (Int32.toInt64 52 &&& 63)) + (FP.d2l (FP.dmul (FP.dsub y2_53 FP.dconst1) 4841369599423283200)) := by delta tX5_bitsOfDouble_53; exact rfl
        have hg : fX5_bitsOfDouble x1 = (y4_53 <<< (Int32.toInt64 52 &&& 63)) + (FP.d2l (FP.dmul (FP.dsub y2_53 FP.dconst1) 4841369599423283200)) := by have e2 := congrArg (fun z => z) e_1; exact hg.trans e2
        exact eP_l hC (congrArg Value.long hg) dX5_bitsOfDouble_101
      have L53 : ∀ (n53 : Nat), ∀ (y2_53 : UInt64) (y4_53 : Int64) (y6_53 : Int32), lpT n53 (bX5_bitsOfDouble_53 x1) (y2_53, y4_53, y6_53) → fX5_bitsOfDouble x1 = (tX5_bitsOfDouble_53 x1 (lpB n53 (bX5_bitsOfDouble_53 x1) (y2_53, y4_53, y6_53))) → FP.dIsNaN y2_53 = false → ∀ (ls : Array Slot), lv_has ls 7 [(2, .double y2_53), (4, .long y4_53), (6, .int y6_53)] → W p l e ({ frames := 0, cells := 0, slots := 0, locals := 0 }) s m ([.double x1] : List Value).toArray below meth c s.heap [] 0 0 (MQ below (QP (.long (fX5_bitsOfDouble x1))) ([.double x1] : List Value).toArray s 0 0 (fun _ => False)) (F0 m 53 ls []) := by
        intro n53
        induction n53 with
        | zero =>
          intro y2_53 y4_53 y6_53 hT
          exact hT.elim
        | succ n53 ih =>
          intro y2_53 y4_53 y6_53 hT hg hI ls hl
          have hg : fX5_bitsOfDouble x1 = (tX5_bitsOfDouble_53 x1 (lpBs n53 (bX5_bitsOfDouble_53 x1) (bX5_bitsOfDouble_53 x1 (y2_53, y4_53, y6_53)))) := hg
          have hT : lpTs n53 (bX5_bitsOfDouble_53 x1) (bX5_bitsOfDouble_53 x1 (y2_53, y4_53, y6_53)) := hT
          refine lv_iload hC.1 hC.2.1 dX5_bitsOfDouble_53 (lv_at hl 2 rfl) ?_
          refine lv_sipush (v := 1023) hC.1 hC.2.1 dX5_bitsOfDouble_55 (by decide +kernel) ?_
          refine lv_icmp_ge (tgt := 87) hC.1 hC.2.1 dX5_bitsOfDouble_58 (by decide) (fun k58 => ?_) (fun k58 => ?_)
          · have e_2 : bX5_bitsOfDouble_53 x1 (y2_53, y4_53, y6_53) = (false, (y2_53, y4_53, y6_53)) := by delta bX5_bitsOfDouble_53; exact Eq.trans (if_pos k58) rfl
            have hg : fX5_bitsOfDouble x1 = (tX5_bitsOfDouble_53 x1 (y2_53, y4_53, y6_53)) := by have e2 := congrArg (fun z => (tX5_bitsOfDouble_53 x1 (lpBs n53 (bX5_bitsOfDouble_53 x1) z))) e_2; exact hg.trans e2
            have hT : lpTs n53 (bX5_bitsOfDouble_53 x1) (false, (y2_53, y4_53, y6_53)) := by rw [← e_2]; exact hT
            exact A53  y2_53 y4_53 y6_53 hg hI _ (lv_sub hl [0, 1] rfl)
          · refine lv_dload_n hC.1 hC.2.1 dX5_bitsOfDouble_61 rfl (lv_at hl 0 rfl) ?_
            refine lv_ldc2d (v := 4611686018427387904) hC.1 hC.2.1 hC.2.2.2.2.1 (hC.2.2.2.2.2.2.1 _ wd_586) dX5_bitsOfDouble_62 ?_
            refine lv_dcmp hC.1 hC.2.1 dX5_bitsOfDouble_65 ?_
            refine lv_if_lt (tgt := 87) hC.1 hC.2.1 dX5_bitsOfDouble_66 (by decide) (fun k66 => ?_) (fun k66 => ?_)
            · have e_3 : bX5_bitsOfDouble_53 x1 (y2_53, y4_53, y6_53) = (false, (y2_53, y4_53, y6_53)) := by delta bX5_bitsOfDouble_53; exact Eq.trans (if_neg k58) (Eq.trans (if_pos k66) rfl)
              have hg : fX5_bitsOfDouble x1 = (tX5_bitsOfDouble_53 x1 (y2_53, y4_53, y6_53)) := by have e2 := congrArg (fun z => (tX5_bitsOfDouble_53 x1 (lpBs n53 (bX5_bitsOfDouble_53 x1) z))) e_3; exact hg.trans e2
              have hT : lpTs n53 (bX5_bitsOfDouble_53 x1) (false, (y2_53, y4_53, y6_53)) := by rw [← e_3]; exact hT
              exact A53  y2_53 y4_53 y6_53 hg hI _ (lv_sub hl [0, 1] rfl)
            · refine lv_dload_n hC.1 hC.2.1 dX5_bitsOfDouble_69 rfl (lv_at hl 0 rfl) ?_
              refine lv_ldc2d (v := 4611686018427387904) hC.1 hC.2.1 hC.2.2.2.2.1 (hC.2.2.2.2.2.2.1 _ wd_586) dX5_bitsOfDouble_70 ?_
              refine lv_ddiv hC.1 hC.2.1 dX5_bitsOfDouble_73 (n64_of (ddiv2_nn hI)) ?_
              refine lv_dstore_n (lv' := [(2, .double (FP.ddiv y2_53 4611686018427387904)), (4, .long y4_53), (6, .int y6_53)]) hC.1 hC.2.1 dX5_bitsOfDouble_74 rfl hl (by decide) rfl (fun ls hl => ?_)
              refine lv_lload hC.1 hC.2.1 dX5_bitsOfDouble_75 (lv_at hl 1 rfl) ?_
              refine lv_lconst (v := 1) hC.1 hC.2.1 dX5_bitsOfDouble_77 rfl ?_
              refine lv_ladd hC.1 hC.2.1 dX5_bitsOfDouble_78 ?_
              refine lv_lstore (lv' := [(4, .long (y4_53 + 1)), (2, .double (FP.ddiv y2_53 4611686018427387904)), (6, .int y6_53)]) hC.1 hC.2.1 dX5_bitsOfDouble_79 hl (by decide) rfl (fun ls hl => ?_)
              refine lv_iinc (v := y6_53 + 1) (lv' := [(6, .int (y6_53 + 1)), (4, .long (y4_53 + 1)), (2, .double (FP.ddiv y2_53 4611686018427387904))]) hC.1 hC.2.1 dX5_bitsOfDouble_81 hl (k := 2) rfl rfl (by decide) rfl (fun ls hl => ?_)
              refine lv_goto (tgt := 53) hC.1 hC.2.1 dX5_bitsOfDouble_84 (by decide) ?_
              have e_4 : bX5_bitsOfDouble_53 x1 (y2_53, y4_53, y6_53) = (true, (FP.ddiv y2_53 4611686018427387904, y4_53 + 1, y6_53 + 1)) := by delta bX5_bitsOfDouble_53; exact Eq.trans (if_neg k58) (Eq.trans (if_neg k66) rfl)
              have hg : fX5_bitsOfDouble x1 = (tX5_bitsOfDouble_53 x1 (lpB n53 (bX5_bitsOfDouble_53 x1) (FP.ddiv y2_53 4611686018427387904, y4_53 + 1, y6_53 + 1))) := by have e2 := congrArg (fun z => (tX5_bitsOfDouble_53 x1 (lpBs n53 (bX5_bitsOfDouble_53 x1) z))) e_4; exact hg.trans e2
              have hT : lpTs n53 (bX5_bitsOfDouble_53 x1) (true, (FP.ddiv y2_53 4611686018427387904, y4_53 + 1, y6_53 + 1)) := by rw [← e_4]; exact hT
              exact ih (FP.ddiv y2_53 4611686018427387904) (y4_53 + 1) (y6_53 + 1) (lpT_go hT) hg (by first | exact hI | exact ddiv2_nn hI) _ (lv_sub hl [2, 1, 0] rfl)
      have e_5 : tX5_bitsOfDouble_18 x1 (y2_18, y4_18, y6_18) = tX5_bitsOfDouble_53 x1 (lpB (mB + 1) (bX5_bitsOfDouble_53 x1) (y2_18, y4_18, 0)) := by delta tX5_bitsOfDouble_18; exact rfl
      have hg : fX5_bitsOfDouble x1 = (tX5_bitsOfDouble_53 x1 (lpB (mB + 1) (bX5_bitsOfDouble_53 x1) (y2_18, y4_18, 0))) := by have e2 := congrArg (fun z => z) e_5; exact hg.trans e2
      exact L53  (mB + 1) y2_18 y4_18 0 (T_bD53 x1 _ _) hg (by first | exact hI | exact ddiv2_nn hI) _ (lv_sub hl [1, 2, 0] rfl)
    have L18 : ∀ (n18 : Nat), ∀ (y2_18 : UInt64) (y4_18 : Int64) (y6_18 : Int32), lpT n18 (bX5_bitsOfDouble_18 x1) (y2_18, y4_18, y6_18) → fX5_bitsOfDouble x1 = (tX5_bitsOfDouble_18 x1 (lpB n18 (bX5_bitsOfDouble_18 x1) (y2_18, y4_18, y6_18))) → FP.dIsNaN y2_18 = false → ∀ (ls : Array Slot), lv_has ls 7 [(2, .double y2_18), (4, .long y4_18), (6, .int y6_18)] → W p l e ({ frames := 0, cells := 0, slots := 0, locals := 0 }) s m ([.double x1] : List Value).toArray below meth c s.heap [] 0 0 (MQ below (QP (.long (fX5_bitsOfDouble x1))) ([.double x1] : List Value).toArray s 0 0 (fun _ => False)) (F0 m 18 ls []) := by
      intro n18
      induction n18 with
      | zero =>
        intro y2_18 y4_18 y6_18 hT
        exact hT.elim
      | succ n18 ih =>
        intro y2_18 y4_18 y6_18 hT hg hI ls hl
        have hg : fX5_bitsOfDouble x1 = (tX5_bitsOfDouble_18 x1 (lpBs n18 (bX5_bitsOfDouble_18 x1) (bX5_bitsOfDouble_18 x1 (y2_18, y4_18, y6_18)))) := hg
        have hT : lpTs n18 (bX5_bitsOfDouble_18 x1) (bX5_bitsOfDouble_18 x1 (y2_18, y4_18, y6_18)) := hT
        refine lv_iload hC.1 hC.2.1 dX5_bitsOfDouble_18 (lv_at hl 2 rfl) ?_
        refine lv_sipush (v := 1023) hC.1 hC.2.1 dX5_bitsOfDouble_20 (by decide +kernel) ?_
        refine lv_icmp_ge (tgt := 50) hC.1 hC.2.1 dX5_bitsOfDouble_23 (by decide) (fun k23 => ?_) (fun k23 => ?_)
        · have e_6 : bX5_bitsOfDouble_18 x1 (y2_18, y4_18, y6_18) = (false, (y2_18, y4_18, y6_18)) := by delta bX5_bitsOfDouble_18; exact Eq.trans (if_pos k23) rfl
          have hg : fX5_bitsOfDouble x1 = (tX5_bitsOfDouble_18 x1 (y2_18, y4_18, y6_18)) := by have e2 := congrArg (fun z => (tX5_bitsOfDouble_18 x1 (lpBs n18 (bX5_bitsOfDouble_18 x1) z))) e_6; exact hg.trans e2
          have hT : lpTs n18 (bX5_bitsOfDouble_18 x1) (false, (y2_18, y4_18, y6_18)) := by rw [← e_6]; exact hT
          exact A18  y2_18 y4_18 y6_18 hg hI _ (lv_sub hl [0, 1] rfl)
        · refine lv_dload_n hC.1 hC.2.1 dX5_bitsOfDouble_26 rfl (lv_at hl 0 rfl) ?_
          refine lv_dconst1 hC.1 hC.2.1 dX5_bitsOfDouble_27 ?_
          refine lv_dcmp hC.1 hC.2.1 dX5_bitsOfDouble_28 ?_
          refine lv_if_ge (tgt := 50) hC.1 hC.2.1 dX5_bitsOfDouble_29 (by decide) (fun k29 => ?_) (fun k29 => ?_)
          · have e_7 : bX5_bitsOfDouble_18 x1 (y2_18, y4_18, y6_18) = (false, (y2_18, y4_18, y6_18)) := by delta bX5_bitsOfDouble_18; exact Eq.trans (if_neg k23) (Eq.trans (if_pos k29) rfl)
            have hg : fX5_bitsOfDouble x1 = (tX5_bitsOfDouble_18 x1 (y2_18, y4_18, y6_18)) := by have e2 := congrArg (fun z => (tX5_bitsOfDouble_18 x1 (lpBs n18 (bX5_bitsOfDouble_18 x1) z))) e_7; exact hg.trans e2
            have hT : lpTs n18 (bX5_bitsOfDouble_18 x1) (false, (y2_18, y4_18, y6_18)) := by rw [← e_7]; exact hT
            exact A18  y2_18 y4_18 y6_18 hg hI _ (lv_sub hl [0, 1] rfl)
          · refine lv_dload_n hC.1 hC.2.1 dX5_bitsOfDouble_32 rfl (lv_at hl 0 rfl) ?_
            refine lv_ldc2d (v := 4611686018427387904) hC.1 hC.2.1 hC.2.2.2.2.1 (hC.2.2.2.2.2.2.1 _ wd_586) dX5_bitsOfDouble_33 ?_
            refine lv_dmul hC.1 hC.2.1 dX5_bitsOfDouble_36 (n64_of (dmul2_nn hI)) ?_
            refine lv_dstore_n (lv' := [(2, .double (FP.dmul y2_18 4611686018427387904)), (4, .long y4_18), (6, .int y6_18)]) hC.1 hC.2.1 dX5_bitsOfDouble_37 rfl hl (by decide) rfl (fun ls hl => ?_)
            refine lv_lload hC.1 hC.2.1 dX5_bitsOfDouble_38 (lv_at hl 1 rfl) ?_
            refine lv_lconst (v := 1) hC.1 hC.2.1 dX5_bitsOfDouble_40 rfl ?_
            refine lv_lsub hC.1 hC.2.1 dX5_bitsOfDouble_41 ?_
            refine lv_lstore (lv' := [(4, .long (y4_18 - 1)), (2, .double (FP.dmul y2_18 4611686018427387904)), (6, .int y6_18)]) hC.1 hC.2.1 dX5_bitsOfDouble_42 hl (by decide) rfl (fun ls hl => ?_)
            refine lv_iinc (v := y6_18 + 1) (lv' := [(6, .int (y6_18 + 1)), (4, .long (y4_18 - 1)), (2, .double (FP.dmul y2_18 4611686018427387904))]) hC.1 hC.2.1 dX5_bitsOfDouble_44 hl (k := 2) rfl rfl (by decide) rfl (fun ls hl => ?_)
            refine lv_goto (tgt := 18) hC.1 hC.2.1 dX5_bitsOfDouble_47 (by decide) ?_
            have e_8 : bX5_bitsOfDouble_18 x1 (y2_18, y4_18, y6_18) = (true, (FP.dmul y2_18 4611686018427387904, y4_18 - 1, y6_18 + 1)) := by delta bX5_bitsOfDouble_18; exact Eq.trans (if_neg k23) (Eq.trans (if_neg k29) rfl)
            have hg : fX5_bitsOfDouble x1 = (tX5_bitsOfDouble_18 x1 (lpB n18 (bX5_bitsOfDouble_18 x1) (FP.dmul y2_18 4611686018427387904, y4_18 - 1, y6_18 + 1))) := by have e2 := congrArg (fun z => (tX5_bitsOfDouble_18 x1 (lpBs n18 (bX5_bitsOfDouble_18 x1) z))) e_8; exact hg.trans e2
            have hT : lpTs n18 (bX5_bitsOfDouble_18 x1) (true, (FP.dmul y2_18 4611686018427387904, y4_18 - 1, y6_18 + 1)) := by rw [← e_8]; exact hT
            exact ih (FP.dmul y2_18 4611686018427387904) (y4_18 - 1) (y6_18 + 1) (lpT_go hT) hg (by first | exact pos_nn k3 | exact dmul2_nn hI) _ (lv_sub hl [2, 1, 0] rfl)
    have e_9 : fX5_bitsOfDouble x1 = tX5_bitsOfDouble_18 x1 (lpB (mB + 1) (bX5_bitsOfDouble_18 x1) (x1, 1023, 0)) := by delta fX5_bitsOfDouble; exact Eq.trans (if_pos k3) rfl
    have hg : fX5_bitsOfDouble x1 = (tX5_bitsOfDouble_18 x1 (lpB (mB + 1) (bX5_bitsOfDouble_18 x1) (x1, 1023, 0))) := by have e2 := congrArg (fun z => z) e_9; exact hg.trans e2
    exact L18  (mB + 1) x1 1023 0 (T_bD18 x1 _ _) hg (by first | exact pos_nn k3 | exact dmul2_nn hI) _ (lv_sub hl [2, 1, 0] rfl)
  · refine lv_lconst (v := 0) hC.1 hC.2.1 dX5_bitsOfDouble_6 rfl ?_
    have e_10 : fX5_bitsOfDouble x1 = 0 := by delta fX5_bitsOfDouble; exact Eq.trans (if_neg k3) rfl
    have hg : fX5_bitsOfDouble x1 = 0 := by have e2 := congrArg (fun z => z) e_10; exact hg.trans e2
    exact eP_l hC (congrArg Value.long hg) dX5_bitsOfDouble_7

theorem dX5_bitsOfFloat_0 : decode cX5_bitsOfFloat 0 = .ok (.fload_n 0, 1) := by decide +kernel
theorem dX5_bitsOfFloat_1 : decode cX5_bitsOfFloat 1 = .ok (.fconst 0, 1) := by decide +kernel
theorem dX5_bitsOfFloat_2 : decode cX5_bitsOfFloat 2 = .ok (.fcmp .l, 1) := by decide +kernel
theorem dX5_bitsOfFloat_3 : decode cX5_bitsOfFloat 3 = .ok (.ifCond .gt 5, 3) := by decide +kernel
theorem dX5_bitsOfFloat_6 : decode cX5_bitsOfFloat 6 = .ok (.iconst 0, 1) := by decide +kernel
theorem dX5_bitsOfFloat_7 : decode cX5_bitsOfFloat 7 = .ok (.ireturn, 1) := by decide +kernel
theorem dX5_bitsOfFloat_8 : decode cX5_bitsOfFloat 8 = .ok (.fload_n 0, 1) := by decide +kernel
theorem dX5_bitsOfFloat_9 : decode cX5_bitsOfFloat 9 = .ok (.fstore_n 1, 1) := by decide +kernel
theorem dX5_bitsOfFloat_10 : decode cX5_bitsOfFloat 10 = .ok (.bipush 127, 2) := by decide +kernel
theorem dX5_bitsOfFloat_12 : decode cX5_bitsOfFloat 12 = .ok (.istore_n 2, 1) := by decide +kernel
theorem dX5_bitsOfFloat_13 : decode cX5_bitsOfFloat 13 = .ok (.iconst 0, 1) := by decide +kernel
theorem dX5_bitsOfFloat_14 : decode cX5_bitsOfFloat 14 = .ok (.istore_n 3, 1) := by decide +kernel
theorem dX5_bitsOfFloat_15 : decode cX5_bitsOfFloat 15 = .ok (.iload_n 3, 1) := by decide +kernel
theorem dX5_bitsOfFloat_16 : decode cX5_bitsOfFloat 16 = .ok (.bipush 127, 2) := by decide +kernel
theorem dX5_bitsOfFloat_18 : decode cX5_bitsOfFloat 18 = .ok (.if_icmp .ge 22, 3) := by decide +kernel
theorem dX5_bitsOfFloat_21 : decode cX5_bitsOfFloat 21 = .ok (.fload_n 1, 1) := by decide +kernel
theorem dX5_bitsOfFloat_22 : decode cX5_bitsOfFloat 22 = .ok (.fconst 1, 1) := by decide +kernel
theorem dX5_bitsOfFloat_23 : decode cX5_bitsOfFloat 23 = .ok (.fcmp .g, 1) := by decide +kernel
theorem dX5_bitsOfFloat_24 : decode cX5_bitsOfFloat 24 = .ok (.ifCond .ge 16, 3) := by decide +kernel
theorem dX5_bitsOfFloat_27 : decode cX5_bitsOfFloat 27 = .ok (.fload_n 1, 1) := by decide +kernel
theorem dX5_bitsOfFloat_28 : decode cX5_bitsOfFloat 28 = .ok (.fconst 2, 1) := by decide +kernel
theorem dX5_bitsOfFloat_29 : decode cX5_bitsOfFloat 29 = .ok (.fmul, 1) := by decide +kernel
theorem dX5_bitsOfFloat_30 : decode cX5_bitsOfFloat 30 = .ok (.fstore_n 1, 1) := by decide +kernel
theorem dX5_bitsOfFloat_31 : decode cX5_bitsOfFloat 31 = .ok (.iinc 2 (-1), 3) := by decide +kernel
theorem dX5_bitsOfFloat_34 : decode cX5_bitsOfFloat 34 = .ok (.iinc 3 1, 3) := by decide +kernel
theorem dX5_bitsOfFloat_37 : decode cX5_bitsOfFloat 37 = .ok (.goto (-22), 3) := by decide +kernel
theorem dX5_bitsOfFloat_40 : decode cX5_bitsOfFloat 40 = .ok (.iconst 0, 1) := by decide +kernel
theorem dX5_bitsOfFloat_41 : decode cX5_bitsOfFloat 41 = .ok (.istore_n 3, 1) := by decide +kernel
theorem dX5_bitsOfFloat_42 : decode cX5_bitsOfFloat 42 = .ok (.iload_n 3, 1) := by decide +kernel
theorem dX5_bitsOfFloat_43 : decode cX5_bitsOfFloat 43 = .ok (.bipush 127, 2) := by decide +kernel
theorem dX5_bitsOfFloat_45 : decode cX5_bitsOfFloat 45 = .ok (.if_icmp .ge 22, 3) := by decide +kernel
theorem dX5_bitsOfFloat_48 : decode cX5_bitsOfFloat 48 = .ok (.fload_n 1, 1) := by decide +kernel
theorem dX5_bitsOfFloat_49 : decode cX5_bitsOfFloat 49 = .ok (.fconst 2, 1) := by decide +kernel
theorem dX5_bitsOfFloat_50 : decode cX5_bitsOfFloat 50 = .ok (.fcmp .l, 1) := by decide +kernel
theorem dX5_bitsOfFloat_51 : decode cX5_bitsOfFloat 51 = .ok (.ifCond .lt 16, 3) := by decide +kernel
theorem dX5_bitsOfFloat_54 : decode cX5_bitsOfFloat 54 = .ok (.fload_n 1, 1) := by decide +kernel
theorem dX5_bitsOfFloat_55 : decode cX5_bitsOfFloat 55 = .ok (.fconst 2, 1) := by decide +kernel
theorem dX5_bitsOfFloat_56 : decode cX5_bitsOfFloat 56 = .ok (.fdiv, 1) := by decide +kernel
theorem dX5_bitsOfFloat_57 : decode cX5_bitsOfFloat 57 = .ok (.fstore_n 1, 1) := by decide +kernel
theorem dX5_bitsOfFloat_58 : decode cX5_bitsOfFloat 58 = .ok (.iinc 2 1, 3) := by decide +kernel
theorem dX5_bitsOfFloat_61 : decode cX5_bitsOfFloat 61 = .ok (.iinc 3 1, 3) := by decide +kernel
theorem dX5_bitsOfFloat_64 : decode cX5_bitsOfFloat 64 = .ok (.goto (-22), 3) := by decide +kernel
theorem dX5_bitsOfFloat_67 : decode cX5_bitsOfFloat 67 = .ok (.iload_n 2, 1) := by decide +kernel
theorem dX5_bitsOfFloat_68 : decode cX5_bitsOfFloat 68 = .ok (.bipush 23, 2) := by decide +kernel
theorem dX5_bitsOfFloat_70 : decode cX5_bitsOfFloat 70 = .ok (.ishl, 1) := by decide +kernel
theorem dX5_bitsOfFloat_71 : decode cX5_bitsOfFloat 71 = .ok (.fload_n 1, 1) := by decide +kernel
theorem dX5_bitsOfFloat_72 : decode cX5_bitsOfFloat 72 = .ok (.fconst 1, 1) := by decide +kernel
theorem dX5_bitsOfFloat_73 : decode cX5_bitsOfFloat 73 = .ok (.fsub, 1) := by decide +kernel
theorem dX5_bitsOfFloat_74 : decode cX5_bitsOfFloat 74 = .ok (.ldc_w 312, 3) := by decide +kernel
theorem dX5_bitsOfFloat_77 : decode cX5_bitsOfFloat 77 = .ok (.fmul, 1) := by decide +kernel
theorem dX5_bitsOfFloat_78 : decode cX5_bitsOfFloat 78 = .ok (.f2i, 1) := by decide +kernel
theorem dX5_bitsOfFloat_79 : decode cX5_bitsOfFloat 79 = .ok (.iadd, 1) := by decide +kernel
theorem dX5_bitsOfFloat_80 : decode cX5_bitsOfFloat 80 = .ok (.ireturn, 1) := by decide +kernel
set_option maxHeartbeats 1000000 in
set_option maxRecDepth 100000 in
theorem c_X5_bitsOfFloat (l : Launch) (G : GT) (x1 : UInt32) : Met l yX5_bitsOfFloat (Cond.code yX5_bitsOfFloat cX5_bitsOfFloat 4 (some .int) :: bigW) ({ frames := 0, cells := 0, slots := 0, locals := 0 }) (BP G [.float x1] (fun U H => True)) (QP (.int (fX5_bitsOfFloat x1))) 0 0 (fun _ => False) := by
  refine met_of (by decide) (Nat.le_of_ble_eq_true rfl) ?_
  intro p e s m below meth c ls hC hKN hB0 hl
  have hl : lv_has ls 4 [(0, .float x1)] := hl
  have hg : fX5_bitsOfFloat x1 = fX5_bitsOfFloat x1 := rfl
  refine lv_fload_n hC.1 hC.2.1 dX5_bitsOfFloat_0 rfl (lv_at hl 0 rfl) ?_
  refine lv_fconst0 hC.1 hC.2.1 dX5_bitsOfFloat_1 ?_
  refine lv_fcmp hC.1 hC.2.1 dX5_bitsOfFloat_2 ?_
  refine lv_if_gt (tgt := 8) hC.1 hC.2.1 dX5_bitsOfFloat_3 (by decide) (fun k3 => ?_) (fun k3 => ?_)
  · refine lv_fload_n hC.1 hC.2.1 dX5_bitsOfFloat_8 rfl (lv_at hl 0 rfl) ?_
    refine lv_fstore_n (lv' := [(1, .float x1), (0, .float x1)]) hC.1 hC.2.1 dX5_bitsOfFloat_9 rfl hl (by decide) rfl (fun ls hl => ?_)
    refine lv_bipush (v := 127) hC.1 hC.2.1 dX5_bitsOfFloat_10 (by decide +kernel) ?_
    refine lv_istore_n (lv' := [(2, .int 127), (1, .float x1), (0, .float x1)]) hC.1 hC.2.1 dX5_bitsOfFloat_12 rfl hl (by decide) rfl (fun ls hl => ?_)
    refine lv_iconst (v := 0) hC.1 hC.2.1 dX5_bitsOfFloat_13 (by decide) ?_
    refine lv_istore_n (lv' := [(3, .int 0), (2, .int 127), (1, .float x1), (0, .float x1)]) hC.1 hC.2.1 dX5_bitsOfFloat_14 rfl hl (by decide) rfl (fun ls hl => ?_)
    have A15 : ∀ (y1_15 : UInt32) (y2_15 : Int32) (y3_15 : Int32), fX5_bitsOfFloat x1 = (tX5_bitsOfFloat_15 x1 (y1_15, y2_15, y3_15)) → FP.fIsNaN y1_15 = false → ∀ (ls : Array Slot), lv_has ls 4 [(1, .float y1_15), (2, .int y2_15)] → W p l e ({ frames := 0, cells := 0, slots := 0, locals := 0 }) s m ([.float x1] : List Value).toArray below meth c s.heap [] 0 0 (MQ below (QP (.int (fX5_bitsOfFloat x1))) ([.float x1] : List Value).toArray s 0 0 (fun _ => False)) (F0 m 40 ls []) := by
      intro  y1_15 y2_15 y3_15 hg hI ls hl
      refine lv_iconst (v := 0) hC.1 hC.2.1 dX5_bitsOfFloat_40 (by decide) ?_
      refine lv_istore_n (lv' := [(3, .int 0), (1, .float y1_15), (2, .int y2_15)]) hC.1 hC.2.1 dX5_bitsOfFloat_41 rfl hl (by decide) rfl (fun ls hl => ?_)
      have A42 : ∀ (y1_42 : UInt32) (y2_42 : Int32) (y3_42 : Int32), fX5_bitsOfFloat x1 = (tX5_bitsOfFloat_42 x1 (y1_42, y2_42, y3_42)) → FP.fIsNaN y1_42 = false → ∀ (ls : Array Slot), lv_has ls 4 [(1, .float y1_42), (2, .int y2_42)] → W p l e ({ frames := 0, cells := 0, slots := 0, locals := 0 }) s m ([.float x1] : List Value).toArray below meth c s.heap [] 0 0 (MQ below (QP (.int (fX5_bitsOfFloat x1))) ([.float x1] : List Value).toArray s 0 0 (fun _ => False)) (F0 m 67 ls []) := by
        intro  y1_42 y2_42 y3_42 hg hI ls hl
        refine lv_iload_n hC.1 hC.2.1 dX5_bitsOfFloat_67 rfl (lv_at hl 1 rfl) ?_
        refine lv_bipush (v := 23) hC.1 hC.2.1 dX5_bitsOfFloat_68 (by decide +kernel) ?_
        refine lv_ishl hC.1 hC.2.1 dX5_bitsOfFloat_70 ?_
        refine lv_fload_n hC.1 hC.2.1 dX5_bitsOfFloat_71 rfl (lv_at hl 0 rfl) ?_
        refine lv_fconst1 hC.1 hC.2.1 dX5_bitsOfFloat_72 ?_
        refine lv_fsub hC.1 hC.2.1 dX5_bitsOfFloat_73 (n32_of (fsub1_nn hI)) ?_
        refine lv_ldcwf (v := 1258291200) hC.1 hC.2.1 hC.2.2.2.2.1 (hC.2.2.2.2.2.2.1 _ wd_591) dX5_bitsOfFloat_74 ?_
        refine lv_fmul hC.1 hC.2.1 dX5_bitsOfFloat_77 (n32_of (fmulc_nn (fsub1_nn hI))) ?_
        refine lv_f2i hC.1 hC.2.1 dX5_bitsOfFloat_78 ?_
        refine lv_iadd hC.1 hC.2.1 dX5_bitsOfFloat_79 ?_
        have e_1 : tX5_bitsOfFloat_42 x1 (y1_42, y2_42, y3_42) = (y2_42 <<< (23 &&& 31)) + (FP.f2i (FP.fmul (FP.fsub y1_42 FP.fconst1) 1258291200)) := by delta tX5_bitsOfFloat_42; exact rfl
        have hg : fX5_bitsOfFloat x1 = (y2_42 <<< (23 &&& 31)) + (FP.f2i (FP.fmul (FP.fsub y1_42 FP.fconst1) 1258291200)) := by have e2 := congrArg (fun z => z) e_1; exact hg.trans e2
        exact eP_i hC (congrArg Value.int hg) dX5_bitsOfFloat_80
      have L42 : ∀ (n42 : Nat), ∀ (y1_42 : UInt32) (y2_42 : Int32) (y3_42 : Int32), lpT n42 (bX5_bitsOfFloat_42 x1) (y1_42, y2_42, y3_42) → fX5_bitsOfFloat x1 = (tX5_bitsOfFloat_42 x1 (lpB n42 (bX5_bitsOfFloat_42 x1) (y1_42, y2_42, y3_42))) → FP.fIsNaN y1_42 = false → ∀ (ls : Array Slot), lv_has ls 4 [(1, .float y1_42), (2, .int y2_42), (3, .int y3_42)] → W p l e ({ frames := 0, cells := 0, slots := 0, locals := 0 }) s m ([.float x1] : List Value).toArray below meth c s.heap [] 0 0 (MQ below (QP (.int (fX5_bitsOfFloat x1))) ([.float x1] : List Value).toArray s 0 0 (fun _ => False)) (F0 m 42 ls []) := by
        intro n42
        induction n42 with
        | zero =>
          intro y1_42 y2_42 y3_42 hT
          exact hT.elim
        | succ n42 ih =>
          intro y1_42 y2_42 y3_42 hT hg hI ls hl
          have hg : fX5_bitsOfFloat x1 = (tX5_bitsOfFloat_42 x1 (lpBs n42 (bX5_bitsOfFloat_42 x1) (bX5_bitsOfFloat_42 x1 (y1_42, y2_42, y3_42)))) := hg
          have hT : lpTs n42 (bX5_bitsOfFloat_42 x1) (bX5_bitsOfFloat_42 x1 (y1_42, y2_42, y3_42)) := hT
          refine lv_iload_n hC.1 hC.2.1 dX5_bitsOfFloat_42 rfl (lv_at hl 2 rfl) ?_
          refine lv_bipush (v := 127) hC.1 hC.2.1 dX5_bitsOfFloat_43 (by decide +kernel) ?_
          refine lv_icmp_ge (tgt := 67) hC.1 hC.2.1 dX5_bitsOfFloat_45 (by decide) (fun k45 => ?_) (fun k45 => ?_)
          · have e_2 : bX5_bitsOfFloat_42 x1 (y1_42, y2_42, y3_42) = (false, (y1_42, y2_42, y3_42)) := by delta bX5_bitsOfFloat_42; exact Eq.trans (if_pos k45) rfl
            have hg : fX5_bitsOfFloat x1 = (tX5_bitsOfFloat_42 x1 (y1_42, y2_42, y3_42)) := by have e2 := congrArg (fun z => (tX5_bitsOfFloat_42 x1 (lpBs n42 (bX5_bitsOfFloat_42 x1) z))) e_2; exact hg.trans e2
            have hT : lpTs n42 (bX5_bitsOfFloat_42 x1) (false, (y1_42, y2_42, y3_42)) := by rw [← e_2]; exact hT
            exact A42  y1_42 y2_42 y3_42 hg hI _ (lv_sub hl [0, 1] rfl)
          · refine lv_fload_n hC.1 hC.2.1 dX5_bitsOfFloat_48 rfl (lv_at hl 0 rfl) ?_
            refine lv_fconst2 hC.1 hC.2.1 dX5_bitsOfFloat_49 ?_
            refine lv_fcmp hC.1 hC.2.1 dX5_bitsOfFloat_50 ?_
            refine lv_if_lt (tgt := 67) hC.1 hC.2.1 dX5_bitsOfFloat_51 (by decide) (fun k51 => ?_) (fun k51 => ?_)
            · have e_3 : bX5_bitsOfFloat_42 x1 (y1_42, y2_42, y3_42) = (false, (y1_42, y2_42, y3_42)) := by delta bX5_bitsOfFloat_42; exact Eq.trans (if_neg k45) (Eq.trans (if_pos k51) rfl)
              have hg : fX5_bitsOfFloat x1 = (tX5_bitsOfFloat_42 x1 (y1_42, y2_42, y3_42)) := by have e2 := congrArg (fun z => (tX5_bitsOfFloat_42 x1 (lpBs n42 (bX5_bitsOfFloat_42 x1) z))) e_3; exact hg.trans e2
              have hT : lpTs n42 (bX5_bitsOfFloat_42 x1) (false, (y1_42, y2_42, y3_42)) := by rw [← e_3]; exact hT
              exact A42  y1_42 y2_42 y3_42 hg hI _ (lv_sub hl [0, 1] rfl)
            · refine lv_fload_n hC.1 hC.2.1 dX5_bitsOfFloat_54 rfl (lv_at hl 0 rfl) ?_
              refine lv_fconst2 hC.1 hC.2.1 dX5_bitsOfFloat_55 ?_
              refine lv_fdiv hC.1 hC.2.1 dX5_bitsOfFloat_56 (n32_of (fdiv2_nn hI)) ?_
              refine lv_fstore_n (lv' := [(1, .float (FP.fdiv y1_42 FP.fconst2)), (2, .int y2_42), (3, .int y3_42)]) hC.1 hC.2.1 dX5_bitsOfFloat_57 rfl hl (by decide) rfl (fun ls hl => ?_)
              refine lv_iinc (v := y2_42 + 1) (lv' := [(2, .int (y2_42 + 1)), (1, .float (FP.fdiv y1_42 FP.fconst2)), (3, .int y3_42)]) hC.1 hC.2.1 dX5_bitsOfFloat_58 hl (k := 1) rfl rfl (by decide) rfl (fun ls hl => ?_)
              refine lv_iinc (v := y3_42 + 1) (lv' := [(3, .int (y3_42 + 1)), (2, .int (y2_42 + 1)), (1, .float (FP.fdiv y1_42 FP.fconst2))]) hC.1 hC.2.1 dX5_bitsOfFloat_61 hl (k := 2) rfl rfl (by decide) rfl (fun ls hl => ?_)
              refine lv_goto (tgt := 42) hC.1 hC.2.1 dX5_bitsOfFloat_64 (by decide) ?_
              have e_4 : bX5_bitsOfFloat_42 x1 (y1_42, y2_42, y3_42) = (true, (FP.fdiv y1_42 FP.fconst2, y2_42 + 1, y3_42 + 1)) := by delta bX5_bitsOfFloat_42; exact Eq.trans (if_neg k45) (Eq.trans (if_neg k51) rfl)
              have hg : fX5_bitsOfFloat x1 = (tX5_bitsOfFloat_42 x1 (lpB n42 (bX5_bitsOfFloat_42 x1) (FP.fdiv y1_42 FP.fconst2, y2_42 + 1, y3_42 + 1))) := by have e2 := congrArg (fun z => (tX5_bitsOfFloat_42 x1 (lpBs n42 (bX5_bitsOfFloat_42 x1) z))) e_4; exact hg.trans e2
              have hT : lpTs n42 (bX5_bitsOfFloat_42 x1) (true, (FP.fdiv y1_42 FP.fconst2, y2_42 + 1, y3_42 + 1)) := by rw [← e_4]; exact hT
              exact ih (FP.fdiv y1_42 FP.fconst2) (y2_42 + 1) (y3_42 + 1) (lpT_go hT) hg (by first | exact hI | exact fdiv2_nn hI) _ (lv_sub hl [2, 1, 0] rfl)
      have e_5 : tX5_bitsOfFloat_15 x1 (y1_15, y2_15, y3_15) = tX5_bitsOfFloat_42 x1 (lpB (mC + 1) (bX5_bitsOfFloat_42 x1) (y1_15, y2_15, 0)) := by delta tX5_bitsOfFloat_15; exact rfl
      have hg : fX5_bitsOfFloat x1 = (tX5_bitsOfFloat_42 x1 (lpB (mC + 1) (bX5_bitsOfFloat_42 x1) (y1_15, y2_15, 0))) := by have e2 := congrArg (fun z => z) e_5; exact hg.trans e2
      exact L42  (mC + 1) y1_15 y2_15 0 (T_bF42 x1 _ _) hg (by first | exact hI | exact fdiv2_nn hI) _ (lv_sub hl [1, 2, 0] rfl)
    have L15 : ∀ (n15 : Nat), ∀ (y1_15 : UInt32) (y2_15 : Int32) (y3_15 : Int32), lpT n15 (bX5_bitsOfFloat_15 x1) (y1_15, y2_15, y3_15) → fX5_bitsOfFloat x1 = (tX5_bitsOfFloat_15 x1 (lpB n15 (bX5_bitsOfFloat_15 x1) (y1_15, y2_15, y3_15))) → FP.fIsNaN y1_15 = false → ∀ (ls : Array Slot), lv_has ls 4 [(1, .float y1_15), (2, .int y2_15), (3, .int y3_15)] → W p l e ({ frames := 0, cells := 0, slots := 0, locals := 0 }) s m ([.float x1] : List Value).toArray below meth c s.heap [] 0 0 (MQ below (QP (.int (fX5_bitsOfFloat x1))) ([.float x1] : List Value).toArray s 0 0 (fun _ => False)) (F0 m 15 ls []) := by
      intro n15
      induction n15 with
      | zero =>
        intro y1_15 y2_15 y3_15 hT
        exact hT.elim
      | succ n15 ih =>
        intro y1_15 y2_15 y3_15 hT hg hI ls hl
        have hg : fX5_bitsOfFloat x1 = (tX5_bitsOfFloat_15 x1 (lpBs n15 (bX5_bitsOfFloat_15 x1) (bX5_bitsOfFloat_15 x1 (y1_15, y2_15, y3_15)))) := hg
        have hT : lpTs n15 (bX5_bitsOfFloat_15 x1) (bX5_bitsOfFloat_15 x1 (y1_15, y2_15, y3_15)) := hT
        refine lv_iload_n hC.1 hC.2.1 dX5_bitsOfFloat_15 rfl (lv_at hl 2 rfl) ?_
        refine lv_bipush (v := 127) hC.1 hC.2.1 dX5_bitsOfFloat_16 (by decide +kernel) ?_
        refine lv_icmp_ge (tgt := 40) hC.1 hC.2.1 dX5_bitsOfFloat_18 (by decide) (fun k18 => ?_) (fun k18 => ?_)
        · have e_6 : bX5_bitsOfFloat_15 x1 (y1_15, y2_15, y3_15) = (false, (y1_15, y2_15, y3_15)) := by delta bX5_bitsOfFloat_15; exact Eq.trans (if_pos k18) rfl
          have hg : fX5_bitsOfFloat x1 = (tX5_bitsOfFloat_15 x1 (y1_15, y2_15, y3_15)) := by have e2 := congrArg (fun z => (tX5_bitsOfFloat_15 x1 (lpBs n15 (bX5_bitsOfFloat_15 x1) z))) e_6; exact hg.trans e2
          have hT : lpTs n15 (bX5_bitsOfFloat_15 x1) (false, (y1_15, y2_15, y3_15)) := by rw [← e_6]; exact hT
          exact A15  y1_15 y2_15 y3_15 hg hI _ (lv_sub hl [0, 1] rfl)
        · refine lv_fload_n hC.1 hC.2.1 dX5_bitsOfFloat_21 rfl (lv_at hl 0 rfl) ?_
          refine lv_fconst1 hC.1 hC.2.1 dX5_bitsOfFloat_22 ?_
          refine lv_fcmp hC.1 hC.2.1 dX5_bitsOfFloat_23 ?_
          refine lv_if_ge (tgt := 40) hC.1 hC.2.1 dX5_bitsOfFloat_24 (by decide) (fun k24 => ?_) (fun k24 => ?_)
          · have e_7 : bX5_bitsOfFloat_15 x1 (y1_15, y2_15, y3_15) = (false, (y1_15, y2_15, y3_15)) := by delta bX5_bitsOfFloat_15; exact Eq.trans (if_neg k18) (Eq.trans (if_pos k24) rfl)
            have hg : fX5_bitsOfFloat x1 = (tX5_bitsOfFloat_15 x1 (y1_15, y2_15, y3_15)) := by have e2 := congrArg (fun z => (tX5_bitsOfFloat_15 x1 (lpBs n15 (bX5_bitsOfFloat_15 x1) z))) e_7; exact hg.trans e2
            have hT : lpTs n15 (bX5_bitsOfFloat_15 x1) (false, (y1_15, y2_15, y3_15)) := by rw [← e_7]; exact hT
            exact A15  y1_15 y2_15 y3_15 hg hI _ (lv_sub hl [0, 1] rfl)
          · refine lv_fload_n hC.1 hC.2.1 dX5_bitsOfFloat_27 rfl (lv_at hl 0 rfl) ?_
            refine lv_fconst2 hC.1 hC.2.1 dX5_bitsOfFloat_28 ?_
            refine lv_fmul hC.1 hC.2.1 dX5_bitsOfFloat_29 (n32_of (fmul2_nn hI)) ?_
            refine lv_fstore_n (lv' := [(1, .float (FP.fmul y1_15 FP.fconst2)), (2, .int y2_15), (3, .int y3_15)]) hC.1 hC.2.1 dX5_bitsOfFloat_30 rfl hl (by decide) rfl (fun ls hl => ?_)
            refine lv_iinc (v := y2_15 + (-1)) (lv' := [(2, .int (y2_15 + (-1))), (1, .float (FP.fmul y1_15 FP.fconst2)), (3, .int y3_15)]) hC.1 hC.2.1 dX5_bitsOfFloat_31 hl (k := 1) rfl rfl (by decide) rfl (fun ls hl => ?_)
            refine lv_iinc (v := y3_15 + 1) (lv' := [(3, .int (y3_15 + 1)), (2, .int (y2_15 + (-1))), (1, .float (FP.fmul y1_15 FP.fconst2))]) hC.1 hC.2.1 dX5_bitsOfFloat_34 hl (k := 2) rfl rfl (by decide) rfl (fun ls hl => ?_)
            refine lv_goto (tgt := 15) hC.1 hC.2.1 dX5_bitsOfFloat_37 (by decide) ?_
            have e_8 : bX5_bitsOfFloat_15 x1 (y1_15, y2_15, y3_15) = (true, (FP.fmul y1_15 FP.fconst2, y2_15 + (-1), y3_15 + 1)) := by delta bX5_bitsOfFloat_15; exact Eq.trans (if_neg k18) (Eq.trans (if_neg k24) rfl)
            have hg : fX5_bitsOfFloat x1 = (tX5_bitsOfFloat_15 x1 (lpB n15 (bX5_bitsOfFloat_15 x1) (FP.fmul y1_15 FP.fconst2, y2_15 + (-1), y3_15 + 1))) := by have e2 := congrArg (fun z => (tX5_bitsOfFloat_15 x1 (lpBs n15 (bX5_bitsOfFloat_15 x1) z))) e_8; exact hg.trans e2
            have hT : lpTs n15 (bX5_bitsOfFloat_15 x1) (true, (FP.fmul y1_15 FP.fconst2, y2_15 + (-1), y3_15 + 1)) := by rw [← e_8]; exact hT
            exact ih (FP.fmul y1_15 FP.fconst2) (y2_15 + (-1)) (y3_15 + 1) (lpT_go hT) hg (by first | exact pos_nnf k3 | exact fmul2_nn hI) _ (lv_sub hl [2, 1, 0] rfl)
    have e_9 : fX5_bitsOfFloat x1 = tX5_bitsOfFloat_15 x1 (lpB (mC + 1) (bX5_bitsOfFloat_15 x1) (x1, 127, 0)) := by delta fX5_bitsOfFloat; exact Eq.trans (if_pos k3) rfl
    have hg : fX5_bitsOfFloat x1 = (tX5_bitsOfFloat_15 x1 (lpB (mC + 1) (bX5_bitsOfFloat_15 x1) (x1, 127, 0))) := by have e2 := congrArg (fun z => z) e_9; exact hg.trans e2
    exact L15  (mC + 1) x1 127 0 (T_bF15 x1 _ _) hg (by first | exact pos_nnf k3 | exact fmul2_nn hI) _ (lv_sub hl [2, 1, 0] rfl)
  · refine lv_iconst (v := 0) hC.1 hC.2.1 dX5_bitsOfFloat_6 (by decide) ?_
    have e_10 : fX5_bitsOfFloat x1 = 0 := by delta fX5_bitsOfFloat; exact Eq.trans (if_neg k3) rfl
    have hg : fX5_bitsOfFloat x1 = 0 := by have e2 := congrArg (fun z => z) e_10; exact hg.trans e2
    exact eP_i hC (congrArg Value.int hg) dX5_bitsOfFloat_7
