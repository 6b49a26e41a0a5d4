theorem pu_timeE {v w : SV} {t : Nat} {f : Nat → Int32} (a1 : ∀ d, w 0 d = if 0 ≤ d ∧ d < 24 then f d else v 0 d) (a2 : ∀ k, 1 ≤ k → k < 8 → w k = v k) (a3 : ∀ k, k < 11 → w 8 k = v 8 k) :
    (∀ d, tX2_passTime_2 v (nI t) w 0 d = if d < 24 then f d else v 0 d) ∧ (∀ k, 1 ≤ k → k < 8 → tX2_passTime_2 v (nI t) w k = v k) ∧ tX2_passTime_2 v (nI t) w 8 1 = v 8 1 + nI t ∧ (∀ k, k < 11 → k ≠ 1 → tX2_passTime_2 v (nI t) w 8 k = v 8 k) := by
  refine ⟨fun d => (a1 d).trans ?_, fun k k1 k2 => ?_, ?_, fun k k1 k2 => ?_⟩
  · by_cases k : d < 24
    · rw [if_pos k, if_pos ⟨Nat.zero_le _, k⟩]
    · rw [if_neg k, if_neg (fun q => k q.2)]
  · rw [← a2 k k1 k2]
    match k, k1, k2 with
    | 1, _, _ => rfl
    | 2, _, _ => rfl
    | 3, _, _ => rfl
    | 4, _, _ => rfl
    | 5, _, _ => rfl
    | 6, _, _ => rfl
    | 7, _, _ => rfl
    | k + 8, _, h => exact absurd h (by omega)
  · rw [← a3 1 (by omega)]
    rfl
  · rw [← a3 k k1]
    match k, k1, k2 with
    | 0, _, _ => rfl
    | 1, _, h => exact absurd rfl h
    | 2, _, _ => rfl
    | 3, _, _ => rfl
    | 4, _, _ => rfl
    | 5, _, _ => rfl
    | 6, _, _ => rfl
    | 7, _, _ => rfl
    | 8, _, _ => rfl
    | 9, _, _ => rfl
    | 10, _, _ => rfl
    | k + 11, h, _ => exact absurd h (by omega)
theorem pu_time {v : SV} {c t : Nat} {h : Nat → Nat} (hc : 1 ≤ c) (hc2 : c < 2 ^ 30) (ht : t < 2 ^ 30) (hh : ∀ d, h d < 2 ^ 30) (h21 : v 2 1 = nI c) (h0 : ∀ d, d < 24 → v 0 d = nI (h d)) :
    (∀ d, fX2_passTime v (nI t) 0 d = if d < 24 then nI (coolN c t (h d)) else v 0 d) ∧ (∀ k, 1 ≤ k → k < 8 → fX2_passTime v (nI t) k = v k) ∧ fX2_passTime v (nI t) 8 1 = v 8 1 + nI t ∧ (∀ k, k < 11 → k ≠ 1 → fX2_passTime v (nI t) 8 k = v 8 k) := by
  obtain ⟨a1, a2, a3⟩ := pu_timeI (v := v) (t := t) hc hc2 ht hh 24 0 v rfl h21 (fun d _ k => h0 d k)
  unfold fX2_passTime
  exact pu_timeE (f := fun d => nI (coolN c t (h d))) a1 a2 a3
