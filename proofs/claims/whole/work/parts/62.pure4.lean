/-! time that passes: the class -/
theorem pu_timeI {v : SV} {c t : Nat} {h : Nat → Nat} (hc : 1 ≤ c) (hc2 : c < 2 ^ 30) (ht : t < 2 ^ 30) (hh : ∀ d, h d < 2 ^ 30) (n : Nat) : ∀ (i : Nat) (s : SV), i + n = 24 → s 2 1 = nI c → (∀ d, i ≤ d → d < 24 → s 0 d = nI (h d)) →
    (∀ d, lpF n i (bX2_passTime_2 v (nI t)) s 0 d = if i ≤ d ∧ d < 24 then nI (coolN c t (h d)) else s 0 d) ∧ (∀ k, 1 ≤ k → k < 8 → lpF n i (bX2_passTime_2 v (nI t)) s k = s k) ∧ (∀ k, k < 11 → lpF n i (bX2_passTime_2 v (nI t)) s 8 k = s 8 k) := by
  induction n with
  | zero =>
    intro i s h1 h2 h3
    refine ⟨fun d => ?_, fun _ _ _ => rfl, fun _ _ => rfl⟩
    rw [if_neg (by omega)]
    rfl
  | succ n ih =>
    intro i s h1 h2 h3
    have e0 : bX2_passTime_2 v (nI t) i s 0 = upd (s 0) i (fX2_cooledFor s (s 0 i) (nI t)) := rfl
    have e1 : fX2_cooledFor s (s 0 i) (nI t) = nI (coolN c t (h i)) := by
      rw [h3 i (Nat.le_refl _) (by omega)]
      exact cooledFor_X2 h2 hc hc2 (hh i) ht
    obtain ⟨a1, a2, a3⟩ := ih (i + 1) (bX2_passTime_2 v (nI t) i s) (by omega) h2 (fun d k1 k2 => by rw [e0, pk_un (by omega)]; exact h3 d (by omega) k2)
    refine ⟨fun d => (a1 d).trans ?_, fun k k1 k2 => (a2 k k1 k2).trans ?_, fun k k1 => (a3 k k1).trans ?_⟩
    · by_cases k1 : d = i
      · subst k1
        rw [if_neg (by omega), if_pos (by omega), e0, pk_us, e1]
      · rw [e0, pk_un k1]
        by_cases k2 : i + 1 ≤ d ∧ d < 24
        · rw [if_pos k2, if_pos (by omega)]
        · rw [if_neg k2, if_neg (by omega)]
    · match k, k1, k2 with
      | 1, _, _ => rfl
      | 2, _, _ => rfl
      | 3, _, _ => rfl
      | 4, _, _ => rfl
      | 5, _, _ => rfl
      | 6, _, _ => rfl
      | 7, _, _ => rfl
      | k + 8, _, h => exact absurd h (by omega)
    · match k, k1 with
      | 0, _ => rfl
      | 1, _ => rfl
      | 2, _ => rfl
      | 3, _ => rfl
      | 4, _ => rfl
      | 5, _ => rfl
      | 6, _ => rfl
      | 7, _ => rfl
      | 8, _ => rfl
      | 9, _ => rfl
      | 10, _ => rfl
      | k + 11, h => exact absurd h (by omega)
