theorem wb_tb (n : Nat) : (lN n).toBitVec = BitVec.ofNat 64 n := rfl
theorem wb_inj {a b : Int64} (h : a.toBitVec = b.toBitVec) : a = b := Int64.toBitVec_inj.mp h
theorem wb_c : ∀ k, k < 64 → ((nI k).toInt64 &&& 63) = lN k := by decide +kernel
theorem wb_sm : ∀ k, k < 64 → (BitVec.ofNat 64 k).smod 64 = BitVec.ofNat 64 k := by decide +kernel
theorem wb_shl (n : Nat) {k : Nat} (hk : k < 64) : lN n <<< ((nI k).toInt64 &&& 63) = lN (n * 2 ^ k) := by
  rw [wb_c k hk]
  apply wb_inj
  rw [Int64.toBitVec_shiftLeft, wb_tb, wb_tb, wb_tb, wb_sm k hk]
  apply BitVec.eq_of_toNat_eq
  rw [BitVec.shiftLeft_eq', BitVec.toNat_shiftLeft, BitVec.toNat_ofNat, BitVec.toNat_ofNat, BitVec.toNat_ofNat, Nat.mod_eq_of_lt (show k < 2 ^ 64 by omega), Nat.shiftLeft_eq, Nat.mul_mod, Nat.mod_mod, ← Nat.mul_mod]
/-! the bits of a double -/
theorem fm_64 : FP.Core.b64.qmin = -1074 ∧ FP.Core.b64.qmax = 971 ∧ FP.Core.b64.p = 53 ∧ FP.Core.b64.tails = 4503599627370496 := by decide
theorem pw_64 : 2 ^ FP.Core.b64.p = 9007199254740992 := by decide
theorem sh_64 {y : UInt64} {c : Nat} {q : Int} (e : FP.Core.val64 y = .fin false c q) (h1 : 4503599627370496 ≤ c) (h2 : c < 9007199254740992) (q1 : -1074 ≤ q) (q2 : q < 971) : FP.Core.val64 (FP.dmul y 4611686018427387904) = .fin false c (q + 1) := by
  obtain ⟨f1, f2, f3, f4⟩ := fm_64
  rw [FP.Core.val64_dmul, e, v2d]
  refine FP.Core.roundRatio_exact FP.Core.good_b64 (by decide) ⟨by rw [pw_64]; exact h2, by rw [f1]; omega, by rw [f2]; omega, Or.inr (by rw [f4]; exact h1)⟩ ?_
  rw [show (q + (-51) - (q + 1)).toNat = 0 by omega, show (q + 1 - (q + (-51))).toNat = 52 by omega, Nat.pow_zero, Nat.mul_one, Nat.mul_one]
theorem hl_64 {y : UInt64} {c : Nat} {q : Int} (e : FP.Core.val64 y = .fin false c q) (h1 : 4503599627370496 ≤ c) (h2 : c < 9007199254740992) (q1 : -1074 < q) (q2 : q ≤ 971) : FP.Core.val64 (FP.ddiv y 4611686018427387904) = .fin false c (q - 1) := by
  obtain ⟨f1, f2, f3, f4⟩ := fm_64
  rw [FP.Core.val64_ddiv, e, v2d]
  show (if 4503599627370496 = 0 then (if c = 0 then FP.Core.Datum.nan else .inf (false != false)) else FP.Core.roundRatio FP.Core.b64 (false != false) c 4503599627370496 (q - (-51))) = _
  rw [if_neg (by decide)]
  refine FP.Core.roundRatio_exact FP.Core.good_b64 (by decide) ⟨by rw [pw_64]; exact h2, by rw [f1]; omega, by rw [f2]; omega, Or.inr (by rw [f4]; exact h1)⟩ ?_
  rw [show (q - (-51) - (q - 1)).toNat = 52 by omega, show (q - 1 - (q - (-51))).toNat = 0 by omega, Nat.pow_zero, Nat.mul_one]
theorem c1_lt_64 {y : UInt64} {c : Nat} {q : Int} (e : FP.Core.val64 y = .fin false c q) (h2 : c < 9007199254740992) (q2 : q < -52) : Op.cmpValue (FP.dcmp y FP.dconst1) .g = -1 := by
  have h : FP.dcmp y FP.dconst1 = FP.Core.order (FP.Core.val64 y) (FP.Core.val64 FP.dconst1) := rfl
  rw [h, e, v1d, ord_lt, cmp_m1]
  rw [show (q - min q (-52)).toNat = 0 by omega, show (-52 - min q (-52)).toNat = (-52 - q).toNat - 1 + 1 by omega, Nat.pow_succ, Nat.pow_zero]
  have := Nat.two_pow_pos ((-52 - q).toNat - 1)
  calc c * 1 < 4503599627370496 * (1 * 2) := by omega
    _ ≤ 4503599627370496 * (2 ^ ((-52 - q).toNat - 1) * 2) := Nat.mul_le_mul_left _ (Nat.mul_le_mul_right _ this)
theorem c1_ge_64 {y : UInt64} {c : Nat} {q : Int} (e : FP.Core.val64 y = .fin false c q) (h1 : 4503599627370496 ≤ c) (q2 : -52 ≤ q) : 0 ≤ Op.cmpValue (FP.dcmp y FP.dconst1) .g := by
  have h : FP.dcmp y FP.dconst1 = FP.Core.order (FP.Core.val64 y) (FP.Core.val64 FP.dconst1) := rfl
  rw [h, e, v1d]
  refine ord_ge ?_ _
  rw [show (-52 - min q (-52)).toNat = 0 by omega, Nat.pow_zero, Nat.mul_one]
  exact Nat.le_trans h1 (Nat.le_mul_of_pos_right _ (Nat.two_pow_pos _))
theorem c2_lt_64 {y : UInt64} {c : Nat} {q : Int} (e : FP.Core.val64 y = .fin false c q) (h2 : c < 9007199254740992) (q2 : q < -51) : Op.cmpValue (FP.dcmp y 4611686018427387904) .l < 0 := by
  have h : FP.dcmp y 4611686018427387904 = FP.Core.order (FP.Core.val64 y) (FP.Core.val64 4611686018427387904) := rfl
  rw [h, e, v2d, ord_lt, cmp_m1]
  · decide
  rw [show (q - min q (-51)).toNat = 0 by omega, show ((-51) - min q (-51)).toNat = ((-51) - q).toNat - 1 + 1 by omega, Nat.pow_succ, Nat.pow_zero]
  have := Nat.two_pow_pos (((-51) - q).toNat - 1)
  calc c * 1 < 4503599627370496 * (1 * 2) := by omega
    _ ≤ 4503599627370496 * (2 ^ (((-51) - q).toNat - 1) * 2) := Nat.mul_le_mul_left _ (Nat.mul_le_mul_right _ this)
theorem c2_ge_64 {y : UInt64} {c : Nat} {q : Int} (e : FP.Core.val64 y = .fin false c q) (h1 : 4503599627370496 ≤ c) (q2 : -51 ≤ q) : ¬ Op.cmpValue (FP.dcmp y 4611686018427387904) .l < 0 := by
  have h : FP.dcmp y 4611686018427387904 = FP.Core.order (FP.Core.val64 y) (FP.Core.val64 4611686018427387904) := rfl
  rw [h, e, v2d]
  refine Int32.not_lt.mpr (ord_ge ?_ _)
  rw [show ((-51) - min q (-51)).toNat = 0 by omega, Nat.pow_zero, Nat.mul_one]
  exact Nat.le_trans h1 (Nat.le_mul_of_pos_right _ (Nat.two_pow_pos _))
theorem c0_64 {y : UInt64} {c : Nat} {q : Int} (e : FP.Core.val64 y = .fin false c q) (h1 : 4503599627370496 ≤ c) (q1 : -1074 ≤ q) : 0 < Op.cmpValue (FP.dcmp y FP.dconst0) .l := by
  have h : FP.dcmp y FP.dconst0 = FP.Core.order (FP.Core.val64 y) (FP.Core.val64 FP.dconst0) := rfl
  rw [h, e, show FP.Core.val64 FP.dconst0 = .fin false 0 FP.Core.b64.qmin from FP.Core.val64_dconst0, fm_64.1]
  show 0 < Op.cmpValue (some (compare (((c * 2 ^ (q - min q (-1074)).toNat : Nat) : Int)) ((0 * 2 ^ ((-1074) - min q (-1074)).toNat : Nat) : Int))) .l
  have hp : 0 < c * 2 ^ (q - min q (-1074)).toNat := Nat.mul_pos (by omega) (Nat.two_pow_pos _)
  rw [Nat.zero_mul, FP.Core.compare_ite, if_neg (by omega), if_neg (by omega)]
  show (0 : Int32) < 1
  decide
theorem tl_64 {y : UInt64} {c m : Nat} (e : FP.Core.val64 y = .fin false c (-52)) (hm : c = 4503599627370496 + m) (h2 : c < 9007199254740992) : FP.d2l (FP.dmul (FP.dsub y FP.dconst1) 4841369599423283200) = lN m := by
  obtain ⟨f1, f2, f3, f4⟩ := fm_64
  have hc : c - FP.Core.b64.tails = m := by rw [f4]; omega
  have hs : FP.Core.val64 (FP.dsub y FP.dconst1) = FP.Core.round FP.Core.b64 (.fin false m (1 - (FP.Core.b64.p : Int))) := by
    rw [FP.Core.val64_dsub, e, v1d]
    have k := sub_one (f := FP.Core.b64) (c := c) (by rw [f4]; omega)
    rw [hc, f4, f3] at k
    rw [f3]
    exact congrArg _ k
  have hw : FP.Core.Whole (m : Int) (FP.Core.val64 (FP.dmul (FP.dsub y FP.dconst1) 4841369599423283200)) := by
    rw [FP.Core.val64_dmul, hs, vcd]
    have k := frac_whole (m := m) FP.Core.good_b64 FP.Core.wide_b64 (by rw [f4]; omega) (by rw [f1, f3]; omega) (by rw [f2, f3]; omega)
    rw [f4] at k
    exact k
  refine FP.Core.d2l_int ?_
  show FP.Core.Whole _ _
  rw [show (lN m).toInt = (m : Int) from pk_lT (by omega)]
  exact hw
/-- the class's way to the bits -/
theorem bits_64 {x : UInt64} {c m : Nat} {q : Int} (e : FP.Core.val64 x = .fin false c q) (hm : c = 4503599627370496 + m) (h2 : c < 9007199254740992) (q1 : -100 ≤ q + 52) (q2 : q + 52 ≤ 100) : fX5_bitsOfDouble x = lN ((q + 1075).toNat * 4503599627370496 + m) := by
  have h1 : 4503599627370496 ≤ c := by omega
  have l1 : ∃ y : UInt64, ∃ E : Nat, lpB (mB + 1) (bX5_bitsOfDouble_18 x) (x, 1023, 0) = (y, lN E, nI (-52 - q).toNat) ∧ FP.Core.val64 y = .fin false c (max q (-52)) ∧ (E : Int) = 1023 - (-52 - q).toNat := by
    refine lpB_ind (Q := fun s => ∃ y : UInt64, ∃ E : Nat, s = (y, lN E, nI (-52 - q).toNat) ∧ FP.Core.val64 y = .fin false c (max q (-52)) ∧ (E : Int) = 1023 - (-52 - q).toNat) (fun i s => ∃ y : UInt64, s = (y, lN (1023 - i), nI i) ∧ FP.Core.val64 y = .fin false c (q + i)) (-52 - q).toNat ?_ ?_ (mB + 1) 0 _ (Nat.zero_le _) (by have : mB = 1023 := rfl; omega) ⟨x, by rw [← nI_0]; rfl, by rw [e]; congr 1; omega⟩
    · rintro i s hi ⟨y, rfl, hy⟩
      have eb : bX5_bitsOfDouble_18 x (y, lN (1023 - i), nI i) = (true, (FP.dmul y 4611686018427387904, lN (1023 - (i + 1)), nI (i + 1))) := by
        unfold bX5_bitsOfDouble_18
        dsimp only
        rw [if_neg (show ¬ (1023 : Int32) ≤ nI i from nI_ge (b := 1023) (by omega) (by omega)), c1_lt_64 hy h2 (by omega), if_neg (by decide), nI_1, show lN (1023 - i) - 1 = lN (1023 - (i + 1)) from (lN_sub (b := 1) (by omega)).trans (by congr 1)]
      rw [eb]
      exact ⟨rfl, _, rfl, by rw [sh_64 hy h1 h2 (by omega) (by omega)]; congr 1; omega⟩
    · rintro s ⟨y, rfl, hy⟩
      have eb : bX5_bitsOfDouble_18 x (y, lN (1023 - (-52 - q).toNat), nI (-52 - q).toNat) = (false, (y, lN (1023 - (-52 - q).toNat), nI (-52 - q).toNat)) := by
        unfold bX5_bitsOfDouble_18
        dsimp only
        rw [if_neg (show ¬ (1023 : Int32) ≤ nI (-52 - q).toNat from nI_ge (b := 1023) (by omega) (by omega)), if_pos (c1_ge_64 hy h1 (by omega))]
      rw [eb]
      exact ⟨rfl, y, _, rfl, by rw [hy]; congr 1; omega, by omega⟩
  obtain ⟨y, E, e1, hy, hE⟩ := l1
  have l2 : ∃ z : UInt64, lpB (mB + 1) (bX5_bitsOfDouble_53 x) (y, lN E, 0) = (z, lN (E + (q + 52).toNat), nI (q + 52).toNat) ∧ FP.Core.val64 z = .fin false c (-52) := by
    refine lpB_ind (Q := fun s => ∃ z : UInt64, s = (z, lN (E + (q + 52).toNat), nI (q + 52).toNat) ∧ FP.Core.val64 z = .fin false c (-52)) (fun i s => ∃ z : UInt64, s = (z, lN (E + i), nI i) ∧ FP.Core.val64 z = .fin false c (max q (-52) - i)) (q + 52).toNat ?_ ?_ (mB + 1) 0 _ (Nat.zero_le _) (by have : mB = 1023 := rfl; omega) ⟨y, by rw [← nI_0]; rfl, by rw [hy]; congr 1; omega⟩
    · rintro i s hi ⟨z, rfl, hz⟩
      have eb : bX5_bitsOfDouble_53 x (z, lN (E + i), nI i) = (true, (FP.ddiv z 4611686018427387904, lN (E + (i + 1)), nI (i + 1))) := by
        unfold bX5_bitsOfDouble_53
        dsimp only
        rw [if_neg (show ¬ (1023 : Int32) ≤ nI i from nI_ge (b := 1023) (by omega) (by omega)), if_neg (c2_ge_64 hz h1 (by omega)), nI_1, lN_1]
        rfl
      rw [eb]
      exact ⟨rfl, _, rfl, by rw [hl_64 hz h1 h2 (by omega) (by omega)]; congr 1; omega⟩
    · rintro s ⟨z, rfl, hz⟩
      have eb : bX5_bitsOfDouble_53 x (z, lN (E + (q + 52).toNat), nI (q + 52).toNat) = (false, (z, lN (E + (q + 52).toNat), nI (q + 52).toNat)) := by
        unfold bX5_bitsOfDouble_53
        dsimp only
        rw [if_neg (show ¬ (1023 : Int32) ≤ nI (q + 52).toNat from nI_ge (b := 1023) (by omega) (by omega)), if_pos (c2_lt_64 hz h2 (by omega))]
      rw [eb]
      exact ⟨rfl, z, rfl, by rw [hz]; congr 1; omega⟩
  obtain ⟨z, e2, hz⟩ := l2
  unfold fX5_bitsOfDouble
  rw [if_pos (c0_64 e h1 (by omega)), e1]
  unfold tX5_bitsOfDouble_18
  dsimp only
  rw [e2]
  unfold tX5_bitsOfDouble_53
  dsimp only
  rw [tl_64 hz hm h2, show lN (E + (q + 52).toNat) <<< (Int32.toInt64 52 &&& 63) = lN ((E + (q + 52).toNat) * 2 ^ 52) from wb_shl _ (k := 52) (by omega), lN_add, show E + (q + 52).toNat = (q + 1075).toNat by omega, show 2 ^ 52 = 4503599627370496 from by decide]
/-- and what the bits are -/
theorem raw_64 {x : UInt64} {c m : Nat} {q : Int} (e : FP.Core.val64 x = .fin false c q) (hm : c = 4503599627370496 + m) (h2 : c < 9007199254740992) (q1 : -100 ≤ q + 52) (q2 : q + 52 ≤ 100) : x.toInt64 = lN ((q + 1075).toNat * 4503599627370496 + m) := by
  obtain ⟨f1, f2, f3, f4⟩ := fm_64
  have k := FP.Core.of64_val64 (a := x) (by rw [e]; intro h; cases h)
  rw [e] at k
  rw [← k]
  have h : FP.Core.encode FP.Core.b64 (.fin false c q) = (q + 1075).toNat * 4503599627370496 + m := by
    show (if c < FP.Core.b64.tails then FP.Core.assemble FP.Core.b64 false 0 c else FP.Core.assemble FP.Core.b64 false ((q - FP.Core.b64.qmin).toNat + 1) (c - FP.Core.b64.tails)) = _
    rw [if_neg (by rw [f4]; omega), show c - FP.Core.b64.tails = m by rw [f4]; omega, f1]
    unfold FP.Core.assemble
    rw [f4, show false.toNat = 0 from rfl, Nat.zero_mul, Nat.zero_add, show (q - (-1074)).toNat + 1 = (q + 1075).toNat by omega]
  show lN (FP.Core.encode FP.Core.b64 (.fin false c q)) = _
  rw [h]
/-! the bits of a float -/
theorem fm_32 : FP.Core.b32.qmin = -149 ∧ FP.Core.b32.qmax = 104 ∧ FP.Core.b32.p = 24 ∧ FP.Core.b32.tails = 8388608 := by decide
theorem pw_32 : 2 ^ FP.Core.b32.p = 16777216 := by decide
theorem sh_32 {y : UInt32} {c : Nat} {q : Int} (e : FP.Core.val32 y = .fin false c q) (h1 : 8388608 ≤ c) (h2 : c < 16777216) (q1 : -149 ≤ q) (q2 : q < 104) : FP.Core.val32 (FP.fmul y FP.fconst2) = .fin false c (q + 1) := by
  obtain ⟨f1, f2, f3, f4⟩ := fm_32
  rw [FP.Core.val32_fmul, e, v2f]
  refine FP.Core.roundRatio_exact FP.Core.good_b32 (by decide) ⟨by rw [pw_32]; exact h2, by rw [f1]; omega, by rw [f2]; omega, Or.inr (by rw [f4]; exact h1)⟩ ?_
  rw [show (q + (-22) - (q + 1)).toNat = 0 by omega, show (q + 1 - (q + (-22))).toNat = 23 by omega, Nat.pow_zero, Nat.mul_one, Nat.mul_one]
theorem hl_32 {y : UInt32} {c : Nat} {q : Int} (e : FP.Core.val32 y = .fin false c q) (h1 : 8388608 ≤ c) (h2 : c < 16777216) (q1 : -149 < q) (q2 : q ≤ 104) : FP.Core.val32 (FP.fdiv y FP.fconst2) = .fin false c (q - 1) := by
  obtain ⟨f1, f2, f3, f4⟩ := fm_32
  rw [FP.Core.val32_fdiv, e, v2f]
  show (if 8388608 = 0 then (if c = 0 then FP.Core.Datum.nan else .inf (false != false)) else FP.Core.roundRatio FP.Core.b32 (false != false) c 8388608 (q - (-22))) = _
  rw [if_neg (by decide)]
  refine FP.Core.roundRatio_exact FP.Core.good_b32 (by decide) ⟨by rw [pw_32]; exact h2, by rw [f1]; omega, by rw [f2]; omega, Or.inr (by rw [f4]; exact h1)⟩ ?_
  rw [show (q - (-22) - (q - 1)).toNat = 23 by omega, show (q - 1 - (q - (-22))).toNat = 0 by omega, Nat.pow_zero, Nat.mul_one]
theorem c1_lt_32 {y : UInt32} {c : Nat} {q : Int} (e : FP.Core.val32 y = .fin false c q) (h2 : c < 16777216) (q2 : q < -23) : Op.cmpValue (FP.fcmp y FP.fconst1) .g = -1 := by
  have h : FP.fcmp y FP.fconst1 = FP.Core.order (FP.Core.val32 y) (FP.Core.val32 FP.fconst1) := rfl
  rw [h, e, v1f, ord_lt, cmp_m1]
  rw [show (q - min q (-23)).toNat = 0 by omega, show (-23 - min q (-23)).toNat = (-23 - q).toNat - 1 + 1 by omega, Nat.pow_succ, Nat.pow_zero]
  have := Nat.two_pow_pos ((-23 - q).toNat - 1)
  calc c * 1 < 8388608 * (1 * 2) := by omega
    _ ≤ 8388608 * (2 ^ ((-23 - q).toNat - 1) * 2) := Nat.mul_le_mul_left _ (Nat.mul_le_mul_right _ this)
theorem c1_ge_32 {y : UInt32} {c : Nat} {q : Int} (e : FP.Core.val32 y = .fin false c q) (h1 : 8388608 ≤ c) (q2 : -23 ≤ q) : 0 ≤ Op.cmpValue (FP.fcmp y FP.fconst1) .g := by
  have h : FP.fcmp y FP.fconst1 = FP.Core.order (FP.Core.val32 y) (FP.Core.val32 FP.fconst1) := rfl
  rw [h, e, v1f]
  refine ord_ge ?_ _
  rw [show (-23 - min q (-23)).toNat = 0 by omega, Nat.pow_zero, Nat.mul_one]
  exact Nat.le_trans h1 (Nat.le_mul_of_pos_right _ (Nat.two_pow_pos _))
theorem c2_lt_32 {y : UInt32} {c : Nat} {q : Int} (e : FP.Core.val32 y = .fin false c q) (h2 : c < 16777216) (q2 : q < -22) : Op.cmpValue (FP.fcmp y FP.fconst2) .l < 0 := by
  have h : FP.fcmp y FP.fconst2 = FP.Core.order (FP.Core.val32 y) (FP.Core.val32 FP.fconst2) := rfl
  rw [h, e, v2f, ord_lt, cmp_m1]
  · decide
  rw [show (q - min q (-22)).toNat = 0 by omega, show ((-22) - min q (-22)).toNat = ((-22) - q).toNat - 1 + 1 by omega, Nat.pow_succ, Nat.pow_zero]
  have := Nat.two_pow_pos (((-22) - q).toNat - 1)
  calc c * 1 < 8388608 * (1 * 2) := by omega
    _ ≤ 8388608 * (2 ^ (((-22) - q).toNat - 1) * 2) := Nat.mul_le_mul_left _ (Nat.mul_le_mul_right _ this)
theorem c2_ge_32 {y : UInt32} {c : Nat} {q : Int} (e : FP.Core.val32 y = .fin false c q) (h1 : 8388608 ≤ c) (q2 : -22 ≤ q) : ¬ Op.cmpValue (FP.fcmp y FP.fconst2) .l < 0 := by
  have h : FP.fcmp y FP.fconst2 = FP.Core.order (FP.Core.val32 y) (FP.Core.val32 FP.fconst2) := rfl
  rw [h, e, v2f]
  refine Int32.not_lt.mpr (ord_ge ?_ _)
  rw [show ((-22) - min q (-22)).toNat = 0 by omega, Nat.pow_zero, Nat.mul_one]
  exact Nat.le_trans h1 (Nat.le_mul_of_pos_right _ (Nat.two_pow_pos _))
theorem c0_32 {y : UInt32} {c : Nat} {q : Int} (e : FP.Core.val32 y = .fin false c q) (h1 : 8388608 ≤ c) (q1 : -149 ≤ q) : 0 < Op.cmpValue (FP.fcmp y FP.fconst0) .l := by
  have h : FP.fcmp y FP.fconst0 = FP.Core.order (FP.Core.val32 y) (FP.Core.val32 FP.fconst0) := rfl
  rw [h, e, show FP.Core.val32 FP.fconst0 = .fin false 0 FP.Core.b32.qmin from FP.Core.val32_fconst0, fm_32.1]
  show 0 < Op.cmpValue (some (compare (((c * 2 ^ (q - min q (-149)).toNat : Nat) : Int)) ((0 * 2 ^ ((-149) - min q (-149)).toNat : Nat) : Int))) .l
  have hp : 0 < c * 2 ^ (q - min q (-149)).toNat := Nat.mul_pos (by omega) (Nat.two_pow_pos _)
  rw [Nat.zero_mul, FP.Core.compare_ite, if_neg (by omega), if_neg (by omega)]
  show (0 : Int32) < 1
  decide
theorem tl_32 {y : UInt32} {c m : Nat} (e : FP.Core.val32 y = .fin false c (-23)) (hm : c = 8388608 + m) (h2 : c < 16777216) : FP.f2i (FP.fmul (FP.fsub y FP.fconst1) 1258291200) = nI m := by
  obtain ⟨f1, f2, f3, f4⟩ := fm_32
  have hc : c - FP.Core.b32.tails = m := by rw [f4]; omega
  have hs : FP.Core.val32 (FP.fsub y FP.fconst1) = FP.Core.round FP.Core.b32 (.fin false m (1 - (FP.Core.b32.p : Int))) := by
    rw [FP.Core.val32_fsub, e, v1f]
    have k := sub_one (f := FP.Core.b32) (c := c) (by rw [f4]; omega)
    rw [hc, f4, f3] at k
    rw [f3]
    exact congrArg _ k
  have hw : FP.Core.Whole (m : Int) (FP.Core.val32 (FP.fmul (FP.fsub y FP.fconst1) 1258291200)) := by
    rw [FP.Core.val32_fmul, hs, vcf]
    have k := frac_whole (m := m) FP.Core.good_b32 FP.Core.wide_b32 (by rw [f4]; omega) (by rw [f1, f3]; omega) (by rw [f2, f3]; omega)
    rw [f4] at k
    exact k
  refine FP.Core.f2i_int ?_
  show FP.Core.Whole _ _
  rw [show (nI m).toInt = (m : Int) from nI_toInt (by omega)]
  exact hw
/-- the class's way to the bits -/
theorem bits_32 {x : UInt32} {c m : Nat} {q : Int} (e : FP.Core.val32 x = .fin false c q) (hm : c = 8388608 + m) (h2 : c < 16777216) (q1 : -100 ≤ q + 23) (q2 : q + 23 ≤ 100) : fX5_bitsOfFloat x = nI ((q + 150).toNat * 8388608 + m) := by
  have h1 : 8388608 ≤ c := by omega
  have l1 : ∃ y : UInt32, ∃ E : Nat, lpB (mC + 1) (bX5_bitsOfFloat_15 x) (x, 127, 0) = (y, nI E, nI (-23 - q).toNat) ∧ FP.Core.val32 y = .fin false c (max q (-23)) ∧ (E : Int) = 127 - (-23 - q).toNat := by
    refine lpB_ind (Q := fun s => ∃ y : UInt32, ∃ E : Nat, s = (y, nI E, nI (-23 - q).toNat) ∧ FP.Core.val32 y = .fin false c (max q (-23)) ∧ (E : Int) = 127 - (-23 - q).toNat) (fun i s => ∃ y : UInt32, s = (y, nI (127 - i), nI i) ∧ FP.Core.val32 y = .fin false c (q + i)) (-23 - q).toNat ?_ ?_ (mC + 1) 0 _ (Nat.zero_le _) (by have : mC = 127 := rfl; omega) ⟨x, by rw [← nI_0]; rfl, by rw [e]; congr 1; omega⟩
    · rintro i s hi ⟨y, rfl, hy⟩
      have eb : bX5_bitsOfFloat_15 x (y, nI (127 - i), nI i) = (true, (FP.fmul y FP.fconst2, nI (127 - (i + 1)), nI (i + 1))) := by
        unfold bX5_bitsOfFloat_15
        dsimp only
        rw [if_neg (show ¬ (127 : Int32) ≤ nI i from nI_ge (b := 127) (by omega) (by omega)), c1_lt_32 hy h2 (by omega), if_neg (by decide), nI_1, show nI (127 - i) + (-1) = nI (127 - (i + 1)) from (congrArg (fun z => z + (-1 : Int32)) (show nI (127 - i) = nI (127 - (i + 1) + 1) from by congr 1; omega)).trans (pk_m1 _)]
      rw [eb]
      exact ⟨rfl, _, rfl, by rw [sh_32 hy h1 h2 (by omega) (by omega)]; congr 1; omega⟩
    · rintro s ⟨y, rfl, hy⟩
      have eb : bX5_bitsOfFloat_15 x (y, nI (127 - (-23 - q).toNat), nI (-23 - q).toNat) = (false, (y, nI (127 - (-23 - q).toNat), nI (-23 - q).toNat)) := by
        unfold bX5_bitsOfFloat_15
        dsimp only
        rw [if_neg (show ¬ (127 : Int32) ≤ nI (-23 - q).toNat from nI_ge (b := 127) (by omega) (by omega)), if_pos (c1_ge_32 hy h1 (by omega))]
      rw [eb]
      exact ⟨rfl, y, _, rfl, by rw [hy]; congr 1; omega, by omega⟩
  obtain ⟨y, E, e1, hy, hE⟩ := l1
  have l2 : ∃ z : UInt32, lpB (mC + 1) (bX5_bitsOfFloat_42 x) (y, nI E, 0) = (z, nI (E + (q + 23).toNat), nI (q + 23).toNat) ∧ FP.Core.val32 z = .fin false c (-23) := by
    refine lpB_ind (Q := fun s => ∃ z : UInt32, s = (z, nI (E + (q + 23).toNat), nI (q + 23).toNat) ∧ FP.Core.val32 z = .fin false c (-23)) (fun i s => ∃ z : UInt32, s = (z, nI (E + i), nI i) ∧ FP.Core.val32 z = .fin false c (max q (-23) - i)) (q + 23).toNat ?_ ?_ (mC + 1) 0 _ (Nat.zero_le _) (by have : mC = 127 := rfl; omega) ⟨y, by rw [← nI_0]; rfl, by rw [hy]; congr 1; omega⟩
    · rintro i s hi ⟨z, rfl, hz⟩
      have eb : bX5_bitsOfFloat_42 x (z, nI (E + i), nI i) = (true, (FP.fdiv z FP.fconst2, nI (E + (i + 1)), nI (i + 1))) := by
        unfold bX5_bitsOfFloat_42
        dsimp only
        rw [if_neg (show ¬ (127 : Int32) ≤ nI i from nI_ge (b := 127) (by omega) (by omega)), if_neg (c2_ge_32 hz h1 (by omega)), nI_1, nI_1]
        rfl
      rw [eb]
      exact ⟨rfl, _, rfl, by rw [hl_32 hz h1 h2 (by omega) (by omega)]; congr 1; omega⟩
    · rintro s ⟨z, rfl, hz⟩
      have eb : bX5_bitsOfFloat_42 x (z, nI (E + (q + 23).toNat), nI (q + 23).toNat) = (false, (z, nI (E + (q + 23).toNat), nI (q + 23).toNat)) := by
        unfold bX5_bitsOfFloat_42
        dsimp only
        rw [if_neg (show ¬ (127 : Int32) ≤ nI (q + 23).toNat from nI_ge (b := 127) (by omega) (by omega)), if_pos (c2_lt_32 hz h2 (by omega))]
      rw [eb]
      exact ⟨rfl, z, rfl, by rw [hz]; congr 1; omega⟩
  obtain ⟨z, e2, hz⟩ := l2
  unfold fX5_bitsOfFloat
  rw [if_pos (c0_32 e h1 (by omega)), e1]
  unfold tX5_bitsOfFloat_15
  dsimp only
  rw [e2]
  unfold tX5_bitsOfFloat_42
  dsimp only
  rw [tl_32 hz hm h2, show nI (E + (q + 23).toNat) <<< ((23 : Int32) &&& 31) = nI ((E + (q + 23).toNat) * 2 ^ 23) from pk_shlN _ 23 (by decide +kernel) (by omega), nI_add, show E + (q + 23).toNat = (q + 150).toNat by omega, show 2 ^ 23 = 8388608 from by decide]
/-- and what the bits are -/
theorem raw_32 {x : UInt32} {c m : Nat} {q : Int} (e : FP.Core.val32 x = .fin false c q) (hm : c = 8388608 + m) (h2 : c < 16777216) (q1 : -100 ≤ q + 23) (q2 : q + 23 ≤ 100) : x.toInt32 = nI ((q + 150).toNat * 8388608 + m) := by
  obtain ⟨f1, f2, f3, f4⟩ := fm_32
  have k := FP.Core.of32_val32 (a := x) (by rw [e]; intro h; cases h)
  rw [e] at k
  rw [← k]
  have h : FP.Core.encode FP.Core.b32 (.fin false c q) = (q + 150).toNat * 8388608 + m := by
    show (if c < FP.Core.b32.tails then FP.Core.assemble FP.Core.b32 false 0 c else FP.Core.assemble FP.Core.b32 false ((q - FP.Core.b32.qmin).toNat + 1) (c - FP.Core.b32.tails)) = _
    rw [if_neg (by rw [f4]; omega), show c - FP.Core.b32.tails = m by rw [f4]; omega, f1]
    unfold FP.Core.assemble
    rw [f4, show false.toNat = 0 from rfl, Nat.zero_mul, Nat.zero_add, show (q - (-149)).toNat + 1 = (q + 150).toNat by omega]
  show nI (FP.Core.encode FP.Core.b32 (.fin false c q)) = _
  rw [h]
