/-! darkness, the mean heat, and their bits -/
theorem val_i2d {n : Nat} (h : n < 2 ^ 31) : FP.Core.val64 (FP.i2d (nI n)) = FP.Core.round FP.Core.b64 (.fin false n 0) := by
  rw [FP.Core.val64_i2d, nI_toInt h]
  show FP.Core.round FP.Core.b64 (.fin (decide ((n : Int) < 0)) (n : Int).natAbs 0) = _
  rw [decide_eq_false (by omega), Int.natAbs_natCast]
theorem val_i2f {n : Nat} (h : n < 2 ^ 31) : FP.Core.val32 (FP.i2f (nI n)) = FP.Core.round FP.Core.b32 (.fin false n 0) := by
  rw [FP.Core.val32_i2f, nI_toInt h]
  show FP.Core.round FP.Core.b32 (.fin (decide ((n : Int) < 0)) (n : Int).natAbs 0) = _
  rw [decide_eq_false (by omega), Int.natAbs_natCast]
theorem nn_d {x : UInt64} (h : FP.Core.val64 x ≠ .nan) : fJxe99ae_doubleToLongBits_ccdee x = x.toInt64 := by
  unfold fJxe99ae_doubleToLongBits_ccdee fJxe99ae_isNaN_b9ae7
  rw [show FP.dcmp x x = some .eq from FP.Core.dcmp_self h]
  rfl
theorem nn_f {x : UInt32} (h : FP.Core.val32 x ≠ .nan) : fJxf58ca_floatToIntBits_5c35a x = x.toInt32 := by
  unfold fJxf58ca_floatToIntBits_5c35a fJxf58ca_isNaN_12338
  rw [show FP.fcmp x x = some .eq from FP.Core.fcmp_self h]
  rfl
theorem db_eq {x : UInt64} {c : Nat} {q : Int} (e : FP.Core.val64 x = .fin false c q) (h1 : 4503599627370496 ≤ c) (h2 : c < 9007199254740992) (q1 : -100 ≤ q + 52) (q2 : q + 52 ≤ 100) : fX5_bitsOfDouble x = fJxe99ae_doubleToLongBits_ccdee x := by
  obtain ⟨m, hm⟩ := Nat.exists_eq_add_of_le h1
  rw [nn_d (by rw [e]; intro h; cases h), bits_64 e hm h2 q1 q2, raw_64 e hm h2 q1 q2]
theorem fb_eq {x : UInt32} {c : Nat} {q : Int} (e : FP.Core.val32 x = .fin false c q) (h1 : 8388608 ≤ c) (h2 : c < 16777216) (q1 : -100 ≤ q + 23) (q2 : q + 23 ≤ 100) : fX5_bitsOfFloat x = fJxf58ca_floatToIntBits_5c35a x := by
  obtain ⟨m, hm⟩ := Nat.exists_eq_add_of_le h1
  rw [nn_f (by rw [e]; intro h; cases h), bits_32 e hm h2 q1 q2, raw_32 e hm h2 q1 q2]
theorem db_0 {x : UInt64} (e : FP.Core.val64 x = .fin false 0 FP.Core.b64.qmin) : fX5_bitsOfDouble x = fJxe99ae_doubleToLongBits_ccdee x := by
  have k := FP.Core.of64_val64 (a := x) (by rw [e]; intro h; cases h)
  rw [e] at k
  have k0 : FP.Core.of64 (.fin false 0 FP.Core.b64.qmin) = FP.dconst0 := by decide +kernel
  rw [k0] at k
  subst k
  rw [nn_d (by rw [e]; intro h; cases h)]
  unfold fX5_bitsOfDouble
  rw [show FP.dcmp FP.dconst0 FP.dconst0 = some .eq from FP.Core.dcmp_self (by rw [e]; intro h; cases h), if_neg (by decide)]
  rfl
theorem fb_0 {x : UInt32} (e : FP.Core.val32 x = .fin false 0 FP.Core.b32.qmin) : fX5_bitsOfFloat x = fJxf58ca_floatToIntBits_5c35a x := by
  have k := FP.Core.of32_val32 (a := x) (by rw [e]; intro h; cases h)
  rw [e] at k
  have k0 : FP.Core.of32 (.fin false 0 FP.Core.b32.qmin) = FP.fconst0 := by decide +kernel
  rw [k0] at k
  subst k
  rw [nn_f (by rw [e]; intro h; cases h)]
  unfold fX5_bitsOfFloat
  rw [show FP.fcmp FP.fconst0 FP.fconst0 = some .eq from FP.Core.fcmp_self (by rw [e]; intro h; cases h), if_neg (by decide)]
  rfl
theorem quot_0 {f : FP.Core.Fmt} {d : Nat} {q r : Int} (hd : 0 < d) : FP.Core.quotient f (.fin false 0 q) (.fin false d r) = .fin false 0 f.qmin := by
  show (if d = 0 then (if 0 = 0 then FP.Core.Datum.nan else .inf (false != false)) else FP.Core.roundRatio f (false != false) 0 d (q - r)) = _
  rw [if_neg (by omega)]
  rfl
/-- a share of whole numbers, its bits -/
theorem db_share {a p : Nat} (hp : 0 < p) (ha : a ≤ p) (hp2 : p < 2 ^ 23) : fX5_bitsOfDouble (FP.ddiv (FP.i2d (nI a)) (FP.i2d (nI p))) = fJxe99ae_doubleToLongBits_ccdee (FP.ddiv (FP.i2d (nI a)) (FP.i2d (nI p))) := by
  obtain ⟨f1, f2, f3, f4⟩ := fm_64
  have good := FP.Core.good_b64
  obtain ⟨l, l1, l2⟩ := nat_norm good (n := p) hp (by rw [pw_64]; omega) (by rw [f1, f3]; omega) FP.Core.wide_b64
  have ep : FP.Core.val64 (FP.i2d (nI p)) = .fin false (p * 2 ^ l) (-(l : Int)) := (val_i2d (by omega)).trans l2
  by_cases h : a = 0
  · subst h
    refine db_0 ?_
    rw [show FP.Core.val64 (FP.ddiv (FP.i2d (nI 0)) (FP.i2d (nI p))) = FP.Core.quotient FP.Core.b64 (FP.Core.val64 (FP.i2d (nI 0))) (FP.Core.val64 (FP.i2d (nI p))) from FP.Core.val64_ddiv _ _, ep, val_i2d (by omega)]
    exact quot_0 (Nat.mul_pos hp (Nat.two_pow_pos _))
  · obtain ⟨k, k1, k2⟩ := nat_norm good (n := a) (by omega) (by rw [pw_64]; omega) (by rw [f1, f3]; omega) FP.Core.wide_b64
    have ea : FP.Core.val64 (FP.i2d (nI a)) = .fin false (a * 2 ^ k) (-(k : Int)) := (val_i2d (by omega)).trans k2
    obtain ⟨c, q, e, c1, c2, q1, q2⟩ := rr_norm good (n := a) (m := p) (by omega) hp 0 23 (by omega) (by omega) (by rw [f1, f3]; omega) (by rw [f2, f3]; omega)
    rw [f4] at c1 c2
    rw [f3] at q1 q2
    refine db_eq (c := c) (q := q) ?_ c1 (by omega) (by omega) (by omega)
    rw [show FP.Core.val64 (FP.ddiv (FP.i2d (nI a)) (FP.i2d (nI p))) = FP.Core.quotient FP.Core.b64 (FP.Core.val64 (FP.i2d (nI a))) (FP.Core.val64 (FP.i2d (nI p))) from FP.Core.val64_ddiv _ _, ea, ep, quot_nat hp]
    exact e
theorem vq24 : FP.Core.val32 1103101952 = .fin false (24 * 2 ^ 19) (-((19 : Nat) : Int)) := by decide +kernel
theorem fb_mean {a : Nat} (ha : a ≤ 21600) : fX5_bitsOfFloat (FP.fdiv (FP.i2f (nI a)) 1103101952) = fJxf58ca_floatToIntBits_5c35a (FP.fdiv (FP.i2f (nI a)) 1103101952) := by
  obtain ⟨f1, f2, f3, f4⟩ := fm_32
  have good := FP.Core.good_b32
  by_cases h : a = 0
  · subst h
    refine fb_0 ?_
    rw [show FP.Core.val32 (FP.fdiv (FP.i2f (nI 0)) 1103101952) = FP.Core.quotient FP.Core.b32 (FP.Core.val32 (FP.i2f (nI 0))) (FP.Core.val32 1103101952) from FP.Core.val32_fdiv _ _, vq24, val_i2f (by omega)]
    exact quot_0 (by decide)
  · obtain ⟨k, k1, k2⟩ := nat_norm good (n := a) (by omega) (by rw [pw_32]; omega) (by rw [f1, f3]; omega) FP.Core.wide_b32
    have ea : FP.Core.val32 (FP.i2f (nI a)) = .fin false (a * 2 ^ k) (-(k : Int)) := (val_i2f (by omega)).trans k2
    obtain ⟨c, q, e, c1, c2, q1, q2⟩ := rr_norm good (n := a) (m := 24) (by omega) (by omega) 10 5 (by omega) (by omega) (by rw [f1, f3]; omega) (by rw [f2, f3]; omega)
    rw [f4] at c1 c2
    rw [f3] at q1 q2
    refine fb_eq (c := c) (q := q) ?_ c1 (by omega) (by omega) (by omega)
    rw [show FP.Core.val32 (FP.fdiv (FP.i2f (nI a)) 1103101952) = FP.Core.quotient FP.Core.b32 (FP.Core.val32 (FP.i2f (nI a))) (FP.Core.val32 1103101952) from FP.Core.val32_fdiv _ _, ea, vq24, quot_nat (by omega)]
    exact e
/-- the sums of a row -/
theorem sums_n {B : Nat} {r : Nat → Int32} (G : Gd B r) (hB : B ≤ 200000) : ∃ P F, smF 24 (fun d => r (26 + d)) = nI P ∧ smF 24 (fun d => r (50 + d)) = nI F ∧ F ≤ P ∧ P < 2 ^ 23 := by
  refine ⟨smN 24 (fun d => aN r (26 + d)), smN 24 (fun d => aN r (50 + d)), smF_N 24 (fun d hd => (G.2.2.2.2.2 d hd).1), smF_N 24 (fun d hd => (G.2.2.2.2.2 d hd).2.1), smN_mono 24 (fun d hd => (G.2.2.2.2.2 d hd).2.2.1), ?_⟩
  have := smN_le (g := fun d => aN r (26 + d)) 24 (fun d hd => Nat.le_trans (G.2.2.2.2.2 d hd).2.2.2 hB)
  omega
theorem share_eq {s w : SV} {B : Nat} (R : RelS s (w 0)) (G : Gd B (w 0)) (hB : B ≤ 200000) : fX4_darkShare s = fX6_share w ∧ fX5_bitsOfDouble (fX4_darkShare s) = fJxe99ae_doubleToLongBits_ccdee (fX6_share w) ∧ FP.Core.val64 (fX6_share w) ≠ .nan := by
  obtain ⟨P, F, e1, e2, h1, h2⟩ := sums_n G hB
  have e5 : s 8 5 = nI P := R.2.2.2.2.2.2.2.1.trans e1
  have e6 : s 8 6 = nI F := R.2.2.2.2.2.2.2.2.trans e2
  have s1 : fX6_sum w 26 = nI P := (sum_6 w 26).trans e1
  have s2 : fX6_sum w 50 = nI F := (sum_6 w 50).trans e2
  unfold fX4_darkShare fX6_share
  rw [e5, e6, s1, s2, pk_sub h1]
  by_cases h : P = 0
  · rw [h, if_neg (by decide), if_pos (by decide)]
    exact ⟨rfl, db_eq (c := 4503599627370496) (q := -52) FP.Core.val64_dconst1 (by omega) (by omega) (by omega) (by omega), by rw [show FP.Core.val64 FP.dconst1 = .fin false (2 ^ 52) (-52) from FP.Core.val64_dconst1]; intro h; cases h⟩
  · rw [if_pos (show (1 : Int32) ≤ nI P from nI_le (a := 1) (by omega) (by omega)), if_neg (nI_ne0 (by omega) (by omega))]
    refine ⟨rfl, db_share (by omega) (by omega) h2, ?_⟩
    obtain ⟨f1, f2, f3, f4⟩ := fm_64
    obtain ⟨l, l1, l2⟩ := nat_norm FP.Core.good_b64 (n := P) (by omega) (by rw [pw_64]; omega) (by rw [f1, f3]; omega) FP.Core.wide_b64
    have ep : FP.Core.val64 (FP.i2d (nI P)) = .fin false (P * 2 ^ l) (-(l : Int)) := (val_i2d (by omega)).trans l2
    have hpp : 0 < P * 2 ^ l := Nat.mul_pos (by omega) (Nat.two_pow_pos _)
    rw [show FP.Core.val64 (FP.ddiv (FP.i2d (nI (P - F))) (FP.i2d (nI P))) = FP.Core.quotient FP.Core.b64 (FP.Core.val64 (FP.i2d (nI (P - F)))) (FP.Core.val64 (FP.i2d (nI P))) from FP.Core.val64_ddiv _ _, ep, val_i2d (by omega)]
    rcases FP.Core.roundRatio_cases FP.Core.b64 false (P - F) 1 0 with ⟨c, q, e⟩ | e
    · rw [show FP.Core.round FP.Core.b64 (.fin false (P - F) 0) = FP.Core.roundRatio FP.Core.b64 false (P - F) 1 0 from rfl, e]
      show (if P * 2 ^ l = 0 then _ else FP.Core.roundRatio FP.Core.b64 (false != false) c (P * 2 ^ l) _) ≠ _
      rw [if_neg (by omega)]
      exact FP.Core.roundRatio_ne_nan _ _ _ _ _
    · rw [show FP.Core.round FP.Core.b64 (.fin false (P - F) 0) = FP.Core.roundRatio FP.Core.b64 false (P - F) 1 0 from rfl, e]
      show FP.Core.Datum.inf (false != false) ≠ _
      intro h
      cases h
theorem mean_eq {s w : SV} {B : Nat} (R : RelS s (w 0)) (G : Gd B (w 0)) : fX2_mean s = fX6_mean w ∧ fX5_bitsOfFloat (fX2_mean s) = fJxf58ca_floatToIntBits_5c35a (fX6_mean w) := by
  have e0 : smF 24 (fun d => w 0 d) = nI (smN 24 (fun d => aN (w 0) d)) := smF_N 24 (fun d hd => (G.2.1 d hd).1)
  have hl := smN_le (g := fun d => aN (w 0) d) (b := 900) 24 (fun d hd => (G.2.1 d hd).2)
  have e1 : fX2_mean s = FP.fdiv (FP.i2f (nI (smN 24 (fun d => aN (w 0) d)))) 1103101952 := by
    unfold fX2_mean tX2_mean_4
    dsimp only
    rw [show lpF 24 0 (bX2_mean_4 s) 0 = smF 24 (fun d => s 0 d) from smF_lp (fun d => s 0 d) 24, smF_congr 24 (fun d hd => R.1 d hd), e0]
  have e2 : fX6_mean w = FP.fdiv (FP.i2f (nI (smN 24 (fun d => aN (w 0) d)))) 1103101952 := by
    unfold fX6_mean
    rw [sum_6, show (fun d => w 0 (0 + d)) = fun d => w 0 d from funext fun d => by rw [Nat.zero_add], e0]
  rw [e1, e2]
  exact ⟨rfl, fb_mean (by omega)⟩
