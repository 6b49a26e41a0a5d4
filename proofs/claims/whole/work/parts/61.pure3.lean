/-! time that passes: the reference -/
theorem pu_passI {v : SV} {x1 : Int32} {d2 c : Nat} {h : Nat → Nat} (hc : 1 ≤ c) (hc2 : c < 2 ^ 30) (hh : ∀ d, h d < 2 ^ 30) (n : Nat) : ∀ (i : Nat) (s : SV), i + n = 24 → s 0 75 = nI c → (∀ d, i ≤ d → d < 24 → s 0 d = nI (h d)) →
    (∀ d, lpF n i (bX6_pass_9 v x1 d2) s 0 d = if i ≤ d ∧ d < 24 then nI (cool c (h d)) else s 0 d) ∧ (∀ k, 1 ≤ k → k < 8 → lpF n i (bX6_pass_9 v x1 d2) s k = s k) ∧ (∀ k, k < 9 → lpF n i (bX6_pass_9 v x1 d2) s 8 k = s 8 k) := by
  induction n with
  | zero =>
    intro i s h1 h2 h3
    refine ⟨fun d => ?_, fun _ _ _ => rfl, fun _ _ => rfl⟩
    rw [if_neg (by omega)]
    rfl
  | succ n ih =>
    intro i s h1 h2 h3
    have e0 : bX6_pass_9 v x1 d2 i s 0 = upd (s 0) i (fX6_cooled s (s 0 i)) := rfl
    have e1 : fX6_cooled s (s 0 i) = nI (cool c (h i)) := by
      rw [h3 i (Nat.le_refl _) (by omega)]
      exact cooled_X6 h2 hc hc2 (hh i)
    obtain ⟨a1, a2, a3⟩ := ih (i + 1) (bX6_pass_9 v x1 d2 i s) (by omega) (by rw [e0, pk_un (by omega)]; exact h2) (fun d k1 k2 => by rw [e0, pk_un (by omega)]; exact h3 d (by omega) k2)
    refine ⟨fun d => (a1 d).trans ?_, fun k k1 k2 => (a2 k k1 k2).trans ?_, fun k k1 => (a3 k k1).trans ?_⟩
    · by_cases k1 : d = i
      · subst k1
        rw [if_neg (by omega), if_pos (by omega), e0, pk_us, e1]
      · rw [e0, pk_un k1]
        by_cases k2 : i + 1 ≤ d ∧ d < 24
        · rw [if_pos k2, if_pos (by omega)]
        · rw [if_neg k2, if_neg (by omega)]
    · match k, k1, k2 with
      | 1, _, _ => rfl
      | 2, _, _ => rfl
      | 3, _, _ => rfl
      | 4, _, _ => rfl
      | 5, _, _ => rfl
      | 6, _, _ => rfl
      | 7, _, _ => rfl
      | k + 8, _, h => exact absurd h (by omega)
    · match k, k1 with
      | 0, _ => rfl
      | 1, _ => rfl
      | 2, _ => rfl
      | 3, _ => rfl
      | 4, _ => rfl
      | 5, _ => rfl
      | 6, _ => rfl
      | 7, _ => rfl
      | 8, _ => rfl
      | k + 9, h => exact absurd h (by omega)
theorem pu_passO {v : SV} {x1 : Int32} {c : Nat} (hc : 1 ≤ c) (hc2 : c < 2 ^ 30) (n : Nat) : ∀ (i : Nat) (s : SV) (h : Nat → Nat), (∀ d, h d < 2 ^ 30) → s 0 75 = nI c → (∀ d, d < 24 → s 0 d = nI (h d)) →
    (∀ d, lpF n i (bX6_pass_2 v x1) s 0 d = if d < 24 then nI (coolN c n (h d)) else s 0 d) ∧ (∀ k, 1 ≤ k → k < 8 → lpF n i (bX6_pass_2 v x1) s k = s k) ∧ (∀ k, k < 9 → lpF n i (bX6_pass_2 v x1) s 8 k = s 8 k) := by
  induction n with
  | zero =>
    intro i s h h1 h2 h3
    refine ⟨fun d => ?_, fun _ _ _ => rfl, fun _ _ => rfl⟩
    by_cases k : d < 24
    · rw [if_pos k]; exact h3 d k
    · rw [if_neg k]; rfl
  | succ n ih =>
    intro i s h h1 h2 h3
    obtain ⟨b1, b2, b3⟩ := pu_passI (v := v) (x1 := x1) (d2 := i) hc hc2 h1 24 0 s rfl h2 (fun d _ k => h3 d k)
    have e : bX6_pass_2 v x1 i s = lpF 24 0 (bX6_pass_9 v x1 i) s := rfl
    rw [← e] at b1 b2 b3
    obtain ⟨a1, a2, a3⟩ := ih (i + 1) (bX6_pass_2 v x1 i s) (fun d => cool c (h d)) (fun d => Nat.lt_of_le_of_lt (cool_le c (h d)) (h1 d)) (by rw [b1, if_neg (by omega)]; exact h2) (fun d k => by rw [b1, if_pos (by omega)])
    refine ⟨fun d => (a1 d).trans ?_, fun k k1 k2 => (a2 k k1 k2).trans (b2 k k1 k2), fun k k1 => (a3 k k1).trans (b3 k k1)⟩
    by_cases k : d < 24
    · rw [if_pos k, if_pos k]
      rfl
    · rw [if_neg k, if_neg k, b1, if_neg (by omega)]
/-- the reference's pass -/
theorem pu_pass {v : SV} {c t : Nat} {h : Nat → Nat} (hc : 1 ≤ c) (hc2 : c < 2 ^ 30) (ht : t < 2 ^ 30) (hh : ∀ d, h d < 2 ^ 30) (h75 : v 0 75 = nI c) (h0 : ∀ d, d < 24 → v 0 d = nI (h d)) :
    (∀ d, fX6_pass v (nI t) 0 d = if d < 24 then nI (coolN c t (h d)) else if d = 82 then v 0 82 + nI t else v 0 d) ∧ (∀ k, 1 ≤ k → k < 8 → fX6_pass v (nI t) k = v k) ∧ (∀ k, k < 9 → fX6_pass v (nI t) 8 k = v 8 k) := by
  obtain ⟨a1, a2, a3⟩ := pu_passO (v := v) (x1 := nI t) hc hc2 t 0 v h hh h75 h0
  have e : fX6_pass v (nI t) = tX6_pass_2 v (nI t) (lpF t 0 (bX6_pass_2 v (nI t)) v) := by
    unfold fX6_pass
    rw [nI_clamp (by omega)]
  rw [e]
  generalize lpF t 0 (bX6_pass_2 v (nI t)) v = w at a1 a2 a3
  refine ⟨fun d => ?_, fun k k1 k2 => ?_, fun k k1 => ?_⟩
  · show upd (w 0) 82 (w 0 82 + nI t) d = _
    by_cases k : d = 82
    · subst k
      rw [pk_us, if_neg (by omega), if_pos rfl, a1, if_neg (by omega)]
    · rw [pk_un k, a1]
      by_cases k2 : d < 24
      · rw [if_pos k2, if_pos k2]
      · rw [if_neg k2, if_neg k2, if_neg k]
  · rw [← a2 k k1 k2]
    match k, k1, k2 with
    | 1, _, _ => rfl
    | 2, _, _ => rfl
    | 3, _, _ => rfl
    | 4, _, _ => rfl
    | 5, _, _ => rfl
    | 6, _, _ => rfl
    | 7, _, _ => rfl
    | k + 8, _, h => exact absurd h (by omega)
  · rw [← a3 k k1]
    match k, k1 with
    | 0, _ => rfl
    | 1, _ => rfl
    | 2, _ => rfl
    | 3, _ => rfl
    | 4, _ => rfl
    | 5, _ => rfl
    | 6, _ => rfl
    | 7, _ => rfl
    | 8, _ => rfl
    | k + 9, h => exact absurd h (by omega)
