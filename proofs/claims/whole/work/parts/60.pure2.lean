/-! cooling, in numbers -/
def cool (c h : Nat) : Nat := h - h / c - 1
theorem cool_le (c h : Nat) : cool c h ≤ h := by unfold cool; omega
theorem cool_z (c : Nat) : cool c 0 = 0 := by unfold cool; omega
def coolN (c : Nat) : Nat → Nat → Nat
  | 0, h => h
  | t + 1, h => coolN c t (cool c h)
theorem coolN_z (c t : Nat) : coolN c t 0 = 0 := by
  induction t with
  | zero => rfl
  | succ t ih => show coolN c t (cool c 0) = 0; rw [cool_z]; exact ih
theorem coolN_le (c t : Nat) : ∀ h, coolN c t h ≤ h := by
  induction t with
  | zero => exact fun h => Nat.le_refl _
  | succ t ih => exact fun h => Nat.le_trans (ih _) (cool_le c h)
theorem cool_i {c h : Nat} (hc : 1 ≤ c) (hc2 : c < 2 ^ 31) (hh : h < 2 ^ 31) : nI h - nI h / nI c - 1 = (if h / c < h then nI (cool c h) else nI h - nI (h / c) - 1) := by
  have hd : nI h / nI c = nI (h / c) := by
    apply Int32.toInt_inj.mp
    rw [Int32.toInt_div_of_ne_right _ _ (by
      intro e
      have := congrArg Int32.toInt e
      rw [nI_toInt hc2] at this
      revert this
      decide +revert), nI_toInt hh, nI_toInt hc2, nI_toInt (Nat.lt_of_le_of_lt (Nat.div_le_self _ _) hh)]
    rfl
  rw [hd]
  split
  · rename_i hlt
    unfold cool
    apply Int32.toInt_inj.mp
    have e1 : nI h - nI (h / c) = nI (h - h / c) := by
      have := nI_add (h - h / c) (h / c)
      rw [Nat.sub_add_cancel (Nat.div_le_self _ _)] at this
      rw [← this]
      exact Int32.add_sub_cancel _ _
    have e2 : nI (h - h / c) - 1 = nI (h - h / c - 1) := by
      have := nI_pred (h - h / c - 1)
      rw [Nat.sub_add_cancel (by omega)] at this
      exact this
    rw [e1, e2]
  · rfl
