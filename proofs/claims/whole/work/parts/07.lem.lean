theorem isWithin_01 (x a b : Int32) : fX5_isWithin x a b = 0 ∨ fX5_isWithin x a b = 1 := by
  unfold fX5_isWithin
  split
  · exact Or.inl rfl
  · split
    · exact Or.inl rfl
    · exact Or.inr rfl
theorem T_cooledFor (v : SV) (x1 x2 y : Int32) (h : Int32) : lpT (x2.toNatClampNeg + 1) (bX2_cooledFor_15 v x1 x2 y) (h, 0) := by
  have key : ∀ (n k : Nat) (h : Int32), x2.toNatClampNeg ≤ k + n → k ≤ x2.toNatClampNeg → lpT (n + 1) (bX2_cooledFor_15 v x1 x2 y) (h, nI k) := by
    intro n
    induction n with
    | zero =>
      intro k h h1 h2
      have hk : k = x2.toNatClampNeg := by omega
      refine Or.inl ?_
      simp only [bX2_cooledFor_15]
      rw [hk, if_pos (cl_le (Nat.le_refl _) (cl_lt x2))]
    | succ n ih =>
      intro k h h1 h2
      by_cases q : x2 ≤ nI k
      · refine Or.inl ?_
        simp only [bX2_cooledFor_15]
        rw [if_pos q]
      · by_cases q2 : h ≤ 0
        · refine Or.inl ?_
          simp only [bX2_cooledFor_15]
          rw [if_neg q, if_pos q2]
        · refine Or.inr ?_
          simp only [bX2_cooledFor_15]
          rw [if_neg q, if_neg q2]
          show lpT (n + 1) _ (_, nI k + 1)
          rw [nI_1]
          refine ih (k + 1) _ (by omega) ?_
          rcases Nat.lt_or_ge k x2.toNatClampNeg with z | z
          · exact z
          · exact absurd (cl_le z (by have := cl_lt x2; omega)) q
  have h0 := key x2.toNatClampNeg 0 h (by omega) (Nat.zero_le _)
  rw [nI_0] at h0
  exact h0
theorem T_timeDownTo_N (v : SV) (x1 x2 y : Int32) (h : Int32) (N : Nat) (hm : N = 1000000) : lpT (N + 1) (bX2_timeDownTo_15 v x1 x2 y) (h, 0) := by
  have key : ∀ (n k : Nat) (h : Int32), k + n = N → lpT (n + 1) (bX2_timeDownTo_15 v x1 x2 y) (h, nI k) := by
    intro n
    induction n with
    | zero =>
      intro k h h1
      have hk : k = 1000000 := by omega
      refine Or.inl ?_
      simp only [bX2_timeDownTo_15]
      split
      · rfl
      · rw [hk, if_pos (show (1000000 : Int32) ≤ nI 1000000 from nI_le (a := 1000000) (b := 1000000) (Nat.le_refl _) (by omega))]
    | succ n ih =>
      intro k h h1
      by_cases q : h ≤ x2
      · refine Or.inl ?_
        simp only [bX2_timeDownTo_15]
        rw [if_pos q]
      · by_cases q2 : (1000000 : Int32) ≤ nI k
        · refine Or.inl ?_
          simp only [bX2_timeDownTo_15]
          rw [if_neg q, if_pos q2]
        · refine Or.inr ?_
          simp only [bX2_timeDownTo_15]
          rw [if_neg q, if_neg q2]
          show lpT (n + 1) _ (_, nI k + 1)
          rw [nI_1]
          exact ih (k + 1) _ (by omega)
  have h0 := key N 0 h (by omega)
  rw [nI_0] at h0
  exact h0
theorem T_timeDownTo (v : SV) (x1 x2 y : Int32) (h : Int32) : lpT (mS + 1) (bX2_timeDownTo_15 v x1 x2 y) (h, 0) := T_timeDownTo_N v x1 x2 y h mS rfl
