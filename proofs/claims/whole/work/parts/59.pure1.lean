/-! the relation between a State of the class and a row of the reference -/
def RelS (v : SV) (r : Nat → Int32) : Prop :=
  (∀ d, d < 24 → v 0 d = r d) ∧ (v 8 8 = r 24 ∧ v 8 9 = r 25) ∧ (∀ d, d < 24 → v 6 d = r (26 + d)) ∧ (∀ d, d < 24 → v 7 d = r (50 + d)) ∧ (∀ i, i < 7 → v 2 i = r (74 + i)) ∧
  (v 8 10 = r 81 ∧ v 8 1 = r 82 ∧ v 8 2 = r 83 ∧ v 8 3 = r 84 ∧ v 8 4 = r 85 ∧ v 8 7 = r 86 ∧ v 8 0 = r 87) ∧ (∀ j, j < 12 → v 3 j = r (88 + 3 * j) ∧ v 4 j = r (89 + 3 * j) ∧ v 5 j = r (90 + 3 * j)) ∧
  v 8 5 = lpF 24 0 (fun d s => s + r (26 + d)) 0 ∧ v 8 6 = lpF 24 0 (fun d s => s + r (50 + d)) 0
theorem RelS_new : RelS sv0 (mv0 0) := by
  unfold RelS
  decide +kernel
