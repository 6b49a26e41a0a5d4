/-! floating point: data in order, a ratio rounded -/
theorem ord_lt {c d : Nat} {q r : Int} (h : c * 2 ^ (q - min q r).toNat < d * 2 ^ (r - min q r).toNat) : FP.Core.order (.fin false c q) (.fin false d r) = some .lt := by
  show some (compare (((c * 2 ^ (q - min q r).toNat : Nat) : Int)) ((d * 2 ^ (r - min q r).toNat : Nat) : Int)) = _
  rw [FP.Core.compare_ite, if_pos (by exact Int.ofNat_lt.mpr h)]
theorem ord_ge {c d : Nat} {q r : Int} (h : d * 2 ^ (r - min q r).toNat ≤ c * 2 ^ (q - min q r).toNat) (m : CmpOp) : 0 ≤ Op.cmpValue (FP.Core.order (.fin false c q) (.fin false d r)) m := by
  show 0 ≤ Op.cmpValue (some (compare (((c * 2 ^ (q - min q r).toNat : Nat) : Int)) ((d * 2 ^ (r - min q r).toNat : Nat) : Int))) m
  rw [FP.Core.compare_ite, if_neg (by exact Int.not_lt.mpr (Int.ofNat_le.mpr h))]
  split
  · show (0 : Int32) ≤ 0
    decide
  · show (0 : Int32) ≤ 1
    decide
theorem cmp_m1 (m : CmpOp) : Op.cmpValue (some .lt) m = -1 := rfl
/-- a ratio between 2^-L and 2^U, rounded: a number of the format, with its leading digit -/
theorem rr_norm {f : FP.Core.Fmt} (hf : FP.Core.Good f) {n m : Nat} (hn : 0 < n) (hm : 0 < m) (U L : Nat) (hU : n ≤ m * 2 ^ U) (hL : m ≤ n * 2 ^ L) (h1 : f.qmin < 1 - (f.p : Int) - L) (h2 : 1 - (f.p : Int) + U ≤ f.qmax) :
    ∃ c q, FP.Core.roundRatio f false n m 0 = .fin false c q ∧ f.tails ≤ c ∧ c < 2 * f.tails ∧ 1 - (f.p : Int) - L ≤ q ∧ q ≤ 1 - (f.p : Int) + U := by
  have tp := FP.Core.tails_pos f
  have tt := FP.Core.two_tails hf
  have ht : f.tails = 2 ^ (f.p - 1) := rfl
  have hp := hf.2
  have fitV : ∀ k : Int, f.qmin ≤ k → k ≤ f.qmax → FP.Core.fits f (.fin false f.tails k) := fun k k1 k2 => ⟨by omega, k1, k2, Or.inr (Nat.le_refl _)⟩
  have fR := FP.Core.roundRatio_fits hf false n hm 0
  have hq0 := FP.Core.qmin_neg hf
  -- between 2^-L and 2^U
  have zV : ∀ k : Int, FP.Core.zmag f (.fin false f.tails k) = f.tails * 2 ^ (k - f.qmin).toNat := fun k => rfl
  have up : FP.Core.zmag f (FP.Core.roundRatio f false n m 0) ≤ f.tails * 2 ^ (1 - (f.p : Int) + U - f.qmin).toNat := by
    rw [← zV]
    refine FP.Core.zmag_roundRatio_le hf hm (fitV _ (by omega) h2) (by intro h; cases h) (Int.le_refl _) (by omega) ?_
    rw [zV]
    unfold FP.Core.inUnits
    rw [Int.sub_self, Int.toNat_zero, Nat.pow_zero, Nat.mul_one, ht, ← Nat.pow_add, show f.p - 1 + (1 - (f.p : Int) + U - f.qmin).toNat = U + (0 - f.qmin).toNat by omega, Nat.pow_add]
    calc n * 2 ^ (0 - f.qmin).toNat ≤ m * 2 ^ U * 2 ^ (0 - f.qmin).toNat := Nat.mul_le_mul_right _ hU
      _ = 2 ^ U * 2 ^ (0 - f.qmin).toNat * m := by rw [Nat.mul_assoc, Nat.mul_comm m]
  have lo : f.tails * 2 ^ (1 - (f.p : Int) - L - f.qmin).toNat ≤ FP.Core.zmag f (FP.Core.roundRatio f false n m 0) := by
    rw [← zV]
    refine FP.Core.zmag_roundRatio_ge hf hm (fitV _ (by omega) (by omega)) (Int.le_refl _) (by omega) ?_
    rw [zV]
    unfold FP.Core.inUnits
    rw [Int.sub_self, Int.toNat_zero, Nat.pow_zero, Nat.mul_one, ht, ← Nat.pow_add, show f.p - 1 + (1 - (f.p : Int) - L - f.qmin).toNat = (0 - f.qmin).toNat - L by omega]
    calc 2 ^ ((0 - f.qmin).toNat - L) * m ≤ 2 ^ ((0 - f.qmin).toNat - L) * (n * 2 ^ L) := Nat.mul_le_mul_left _ hL
      _ = n * (2 ^ ((0 - f.qmin).toNat - L) * 2 ^ L) := by rw [Nat.mul_comm, Nat.mul_assoc, Nat.mul_comm (2 ^ L)]
      _ = n * 2 ^ (0 - f.qmin).toNat := by rw [← Nat.pow_add]; congr 2; omega
  have rc := FP.Core.roundRatio_cases f false n m 0
  have hs := FP.Core.sgn_roundRatio f false n m 0
  generalize FP.Core.roundRatio f false n m 0 = R at fR up lo rc hs
  rcases rc with ⟨c, q, e⟩ | e
  · subst e
    have z : FP.Core.zmag f (.fin false c q) = c * 2 ^ (q - f.qmin).toNat := rfl
    rw [z] at up lo
    obtain ⟨a1, a2, a3, a4⟩ := fR
    have hc : f.tails ≤ c := by
      rcases a4 with a4 | a4
      · rw [a4, Int.sub_self, Int.toNat_zero, Nat.pow_zero, Nat.mul_one] at lo
        exact Nat.le_trans (Nat.le_mul_of_pos_right _ (Nat.two_pow_pos _)) lo
      · exact a4
    have hc2 : c < 2 * f.tails := by omega
    refine ⟨c, q, rfl, hc, hc2, ?_, ?_⟩
    · refine Int.not_lt.mp (fun hq => ?_)
      have h3 : c * 2 ^ (q - f.qmin).toNat < f.tails * 2 ^ (1 - (f.p : Int) - L - f.qmin).toNat := by
        rw [show (1 - (f.p : Int) - L - f.qmin).toNat = ((1 - (f.p : Int) - L - f.qmin).toNat - 1 - (q - f.qmin).toNat) + 1 + (q - f.qmin).toNat by omega, Nat.pow_add, Nat.pow_succ, ← Nat.mul_assoc]
        refine Nat.mul_lt_mul_of_pos_right ?_ (Nat.two_pow_pos _)
        have := Nat.two_pow_pos ((1 - (f.p : Int) - L - f.qmin).toNat - 1 - (q - f.qmin).toNat)
        calc c < 2 * f.tails := hc2
          _ = f.tails * (1 * 2) := by omega
          _ ≤ f.tails * (2 ^ ((1 - (f.p : Int) - L - f.qmin).toNat - 1 - (q - f.qmin).toNat) * 2) := Nat.mul_le_mul_left _ (Nat.mul_le_mul_right _ this)
      omega
    · refine Int.not_lt.mp (fun hq => ?_)
      have h3 : f.tails * 2 ^ (1 - (f.p : Int) + U - f.qmin).toNat < c * 2 ^ (q - f.qmin).toNat := by
        calc f.tails * 2 ^ (1 - (f.p : Int) + U - f.qmin).toNat < f.tails * 2 ^ (q - f.qmin).toNat := Nat.mul_lt_mul_of_pos_left (Nat.pow_lt_pow_right (by omega) (by omega)) tp
          _ ≤ c * 2 ^ (q - f.qmin).toNat := Nat.mul_le_mul_right _ hc
      omega
  · exfalso
    rw [e] at up
    have z : FP.Core.zmag f (.inf false) = f.tails * 2 ^ (f.exps - 2) := rfl
    rw [z] at up
    have h3 := FP.Core.qmax_qmin f
    have h4 := FP.Core.emax_exps hf
    have h5 : f.tails * 2 ^ (1 - (f.p : Int) + U - f.qmin).toNat < f.tails * 2 ^ (f.exps - 2) := Nat.mul_lt_mul_of_pos_left (Nat.pow_lt_pow_right (by omega) (by omega)) tp
    omega
/-- a whole number as a datum, written with its leading digit -/
theorem nat_norm {f : FP.Core.Fmt} (hf : FP.Core.Good f) {n : Nat} (hn : 0 < n) (hn2 : n < 2 ^ f.p) (hw : f.qmin ≤ -(f.p : Int)) (hwd : FP.Core.Wide f) : ∃ k : Nat, n * 2 ^ k < 2 ^ f.p ∧ FP.Core.round f (.fin false n 0) = .fin false (n * 2 ^ k) (-(k : Int)) := by
  have l1 : 2 ^ n.log2 ≤ n := Nat.log2_self_le (by omega)
  have l2 : n < 2 ^ (n.log2 + 1) := Nat.lt_log2_self
  have l3 : n.log2 < f.p := (Nat.pow_lt_pow_iff_right (by decide : 1 < 2)).mp (Nat.lt_of_le_of_lt l1 hn2)
  have h3 := FP.Core.qmax_qmin f
  have h5 := FP.Core.emax_pos hf
  generalize hL : n.log2 = L at l1 l2 l3
  have b1 : n * 2 ^ (f.p - 1 - L) < 2 ^ f.p := by
    calc n * 2 ^ (f.p - 1 - L) < 2 ^ (L + 1) * 2 ^ (f.p - 1 - L) := Nat.mul_lt_mul_of_pos_right l2 (Nat.two_pow_pos _)
      _ = 2 ^ f.p := by rw [← Nat.pow_add]; congr 1; omega
  refine ⟨f.p - 1 - L, b1, ?_⟩
  refine FP.Core.roundRatio_exact hf (by decide) ⟨b1, by omega, ?_, Or.inr ?_⟩ ?_
  · have h6 : (f.qmax : Int) = f.emax - f.p + 1 := rfl
    have h8 : f.p ≤ f.emax := hwd
    omega
  · calc f.tails = 2 ^ L * 2 ^ (f.p - 1 - L) := by rw [← Nat.pow_add]; unfold FP.Core.Fmt.tails; congr 1; omega
      _ ≤ n * 2 ^ (f.p - 1 - L) := Nat.mul_le_mul_right _ l1
  · rw [show (0 - -((f.p - 1 - L : Nat) : Int)).toNat = f.p - 1 - L by omega, show (-((f.p - 1 - L : Nat) : Int) - 0).toNat = 0 by omega, Nat.pow_zero, Nat.mul_one, Nat.mul_one]
theorem quot_nat {f : FP.Core.Fmt} {n m k l : Nat} (hm : 0 < m) : FP.Core.quotient f (.fin false (n * 2 ^ k) (-(k : Int))) (.fin false (m * 2 ^ l) (-(l : Int))) = FP.Core.roundRatio f false n m 0 := by
  show (if m * 2 ^ l = 0 then (if n * 2 ^ k = 0 then FP.Core.Datum.nan else .inf (false != false)) else FP.Core.roundRatio f (false != false) (n * 2 ^ k) (m * 2 ^ l) (-(k : Int) - -(l : Int))) = _
  have hp : 0 < m * 2 ^ l := Nat.mul_pos hm (Nat.two_pow_pos _)
  rw [if_neg (by omega)]
  refine FP.Core.roundRatio_congr hp hm ?_
  by_cases h : k ≤ l
  · rw [show (-(k : Int) - -(l : Int) - 0).toNat = l - k by omega, show (0 - (-(k : Int) - -(l : Int))).toNat = 0 by omega, Nat.pow_zero, Nat.mul_one, show 2 ^ l = 2 ^ k * 2 ^ (l - k) by rw [← Nat.pow_add]; congr 1; omega]
    ac_rfl
  · rw [show (-(k : Int) - -(l : Int) - 0).toNat = 0 by omega, show (0 - (-(k : Int) - -(l : Int))).toNat = k - l by omega, Nat.pow_zero, Nat.mul_one, show 2 ^ k = 2 ^ l * 2 ^ (k - l) by rw [← Nat.pow_add]; congr 1; omega]
    ac_rfl
/-- m units of 2^-(p-1), as the format writes it, times 2^(p-1): whole -/
theorem frac_whole {f : FP.Core.Fmt} (hf : FP.Core.Good f) (hw : FP.Core.Wide f) {m : Nat} (hm : m < f.tails) (h1 : f.qmin ≤ 1 - (f.p : Int)) (h2 : 1 - (f.p : Int) ≤ f.qmax) : FP.Core.Whole (m : Int) (FP.Core.round f (FP.Core.exactProduct (FP.Core.round f (.fin false m (1 - (f.p : Int)))) (.fin false f.tails 0))) := by
  have tt := FP.Core.two_tails hf
  have hp := hf.2
  obtain ⟨c, q, e, hv⟩ := FP.Core.round_exact hf false (c := m) (q := 1 - (f.p : Int)) (by omega) h1 h2
  have fR := FP.Core.round_fits hf (.fin false m (1 - (f.p : Int)))
  rw [e] at fR ⊢
  obtain ⟨a1, a2, a3, a4⟩ := fR
  refine FP.Core.whole_round hf hw (by omega) ?_
  unfold FP.Core.inUnits at hv
  have hq : q ≤ 0 ∨ c = 0 := by
    by_cases h : q ≤ 0
    · exact Or.inl h
    · refine Or.inr (Nat.eq_zero_of_not_pos (fun hc => ?_))
      have h3 : m * 2 ^ (1 - (f.p : Int) - f.qmin).toNat < c * 2 ^ (q - f.qmin).toNat := by
        calc m * 2 ^ (1 - (f.p : Int) - f.qmin).toNat < f.tails * 2 ^ (1 - (f.p : Int) - f.qmin).toNat := Nat.mul_lt_mul_of_pos_right hm (Nat.two_pow_pos _)
          _ = 2 ^ (0 - f.qmin).toNat := by unfold FP.Core.Fmt.tails; rw [← Nat.pow_add]; congr 1; omega
          _ ≤ 1 * 2 ^ (q - f.qmin).toNat := by rw [Nat.one_mul]; exact Nat.pow_le_pow_right (by omega) (by omega)
          _ ≤ c * 2 ^ (q - f.qmin).toNat := Nat.mul_le_mul_right _ hc
      omega
  show (((c * f.tails * 2 ^ (q + 0).toNat : Nat) : Int)) = (m : Int) * ((2 ^ (-(q + 0)).toNat : Nat) : Int)
  rw [← Int.natCast_mul]
  congr 1
  rw [Int.add_zero]
  rcases hq with hq | hq
  · rw [show q.toNat = 0 by omega, Nat.pow_zero, Nat.mul_one]
    refine Nat.eq_of_mul_eq_mul_right (Nat.two_pow_pos (1 - (f.p : Int) - f.qmin).toNat) ?_
    calc c * f.tails * 2 ^ (1 - (f.p : Int) - f.qmin).toNat = c * (2 ^ (q - f.qmin).toNat * 2 ^ (-q).toNat) := by
          unfold FP.Core.Fmt.tails
          rw [Nat.mul_assoc, ← Nat.pow_add, ← Nat.pow_add]
          congr 2
          omega
      _ = m * 2 ^ (1 - (f.p : Int) - f.qmin).toNat * 2 ^ (-q).toNat := by rw [← Nat.mul_assoc, hv]
      _ = m * 2 ^ (-q).toNat * 2 ^ (1 - (f.p : Int) - f.qmin).toNat := by rw [Nat.mul_assoc, Nat.mul_comm (2 ^ (1 - (f.p : Int) - f.qmin).toNat), ← Nat.mul_assoc]
  · subst hq
    rw [Nat.zero_mul] at hv
    have hm0 : m = 0 := by
      rcases Nat.mul_eq_zero.mp hv.symm with h | h
      · exact h
      · exact absurd h (Nat.ne_of_gt (Nat.two_pow_pos _))
    rw [hm0, Nat.zero_mul, Nat.zero_mul, Nat.zero_mul]
theorem sub_one {f : FP.Core.Fmt} {c : Nat} (h1 : f.tails ≤ c) : FP.Core.exactSum (.fin false c (1 - (f.p : Int))) (FP.Core.negate (.fin false f.tails (1 - (f.p : Int)))) = .fin false (c - f.tails) (1 - (f.p : Int)) := by
  have e : FP.Core.sumUnits false c (1 - (f.p : Int)) true f.tails (1 - (f.p : Int)) (min (1 - (f.p : Int)) (1 - (f.p : Int))) = ((c - f.tails : Nat) : Int) := by
    show (((c * 2 ^ (1 - (f.p : Int) - min (1 - (f.p : Int)) (1 - (f.p : Int))).toNat : Nat)) : Int) + -((f.tails * 2 ^ (1 - (f.p : Int) - min (1 - (f.p : Int)) (1 - (f.p : Int))).toNat : Nat) : Int) = _
    rw [show (1 - (f.p : Int) - min (1 - (f.p : Int)) (1 - (f.p : Int))).toNat = 0 by omega, Nat.pow_zero, Nat.mul_one, Nat.mul_one]
    omega
  show FP.Core.Datum.fin (FP.Core.sumSign false true (FP.Core.sumUnits false c (1 - (f.p : Int)) true f.tails (1 - (f.p : Int)) (min (1 - (f.p : Int)) (1 - (f.p : Int))))) (FP.Core.sumUnits false c (1 - (f.p : Int)) true f.tails (1 - (f.p : Int)) (min (1 - (f.p : Int)) (1 - (f.p : Int)))).natAbs (min (1 - (f.p : Int)) (1 - (f.p : Int))) = _
  rw [e, Int.natAbs_natCast, show min (1 - (f.p : Int)) (1 - (f.p : Int)) = 1 - (f.p : Int) by omega]
  congr 1
  unfold FP.Core.sumSign
  split
  · rfl
  · exact decide_eq_false (by omega)
