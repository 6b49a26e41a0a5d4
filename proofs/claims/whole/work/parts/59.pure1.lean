/-! the relation between a State of the class and a row of the reference -/
def smF : Nat → (Nat → Int32) → Int32
  | 0, _ => 0
  | n + 1, f => smF n f + f n
theorem smF_congr {f g : Nat → Int32} (n : Nat) (h : ∀ d, d < n → f d = g d) : smF n f = smF n g := by
  induction n with
  | zero => rfl
  | succ n ih =>
    show smF n f + f n = smF n g + g n
    rw [ih (fun d hd => h d (by omega)), h n (by omega)]
def RelS (v : SV) (r : Nat → Int32) : Prop :=
  (∀ d, d < 24 → v 0 d = r d) ∧ (v 8 8 = r 24 ∧ v 8 9 = r 25) ∧ (∀ d, d < 24 → v 6 d = r (26 + d)) ∧ (∀ d, d < 24 → v 7 d = r (50 + d)) ∧ (∀ i, i < 7 → v 2 i = r (74 + i)) ∧
  (v 8 10 = r 81 ∧ v 8 1 = r 82 ∧ v 8 2 = r 83 ∧ v 8 3 = r 84 ∧ v 8 4 = r 85 ∧ v 8 7 = r 86 ∧ v 8 0 = r 87) ∧ (∀ j, j < (r 87).toNatClampNeg → j < 12 → v 3 j = r (88 + 3 * j) ∧ v 4 j = r (89 + 3 * j) ∧ v 5 j = r (90 + 3 * j)) ∧
  v 8 5 = smF 24 (fun d => r (26 + d)) ∧ v 8 6 = smF 24 (fun d => r (50 + d))
theorem RelS_new : RelS sv0 (mv0 0) := by
  unfold RelS
  decide +kernel
