/-! cooling, in numbers -/
def cool (c h : Nat) : Nat := h - h / c - 1
theorem cool_le (c h : Nat) : cool c h ≤ h := Nat.le_trans (Nat.sub_le _ _) (Nat.sub_le _ _)
theorem cool_z (c : Nat) : cool c 0 = 0 := Nat.le_zero.mp (cool_le c 0)
def coolN (c : Nat) : Nat → Nat → Nat
  | 0, h => h
  | t + 1, h => coolN c t (cool c h)
theorem coolN_z (c t : Nat) : coolN c t 0 = 0 := by
  induction t with
  | zero => rfl
  | succ t ih => show coolN c t (cool c 0) = 0; rw [cool_z]; exact ih
theorem coolN_le (c t : Nat) : ∀ h, coolN c t h ≤ h := by
  induction t with
  | zero => exact fun h => Nat.le_refl _
  | succ t ih => exact fun h => Nat.le_trans (ih _) (cool_le c h)
theorem cool_i {c h : Nat} (hc : 1 ≤ c) (hc2 : c < 2 ^ 30) (hh : h < 2 ^ 30) : (h / c < h ∧ nI h - nI h / nI c - 1 = nI (cool c h)) ∨ (cool c h = 0 ∧ nI h - nI h / nI c - 1 = -1) := by
  have hd : h / c ≤ h := Nat.div_le_self _ _
  rw [pk_div (by omega) (by omega) (by omega), pk_sub hd]
  by_cases hlt : h / c < h
  · refine Or.inl ⟨hlt, ?_⟩
    exact pk_sub (a := h - h / c) (b := 1) (by omega)
  · refine Or.inr ⟨?_, ?_⟩
    · unfold cool
      have e : h / c = h := Nat.le_antisymm hd (Nat.not_lt.mp hlt)
      rw [e, Nat.sub_self]
    · have e : h / c = h := Nat.le_antisymm hd (Nat.not_lt.mp hlt)
      rw [e, Nat.sub_self]
      rfl
theorem cooled_X2 {c h : Nat} (hc : 1 ≤ c) (hc2 : c < 2 ^ 30) (hh : h < 2 ^ 30) : fX2_cooled (nI h) (nI c) = nI (cool c h) := by
  have hle := cool_le c h
  unfold fX2_cooled
  rw [if_pos (show (1 : Int32) ≤ nI c from nI_le (a := 1) hc (by omega))]
  rcases cool_i hc hc2 hh with ⟨-, e⟩ | ⟨e1, e⟩
  · rw [e, if_pos (nI_pos' (by omega))]
  · rw [e, e1, if_neg (by decide)]
    rfl
theorem cooled_X6 {v : SV} {c h : Nat} (hv : v 0 75 = nI c) (hc : 1 ≤ c) (hc2 : c < 2 ^ 30) (hh : h < 2 ^ 30) : fX6_cooled v (nI h) = nI (cool c h) := by
  have hle := cool_le c h
  unfold fX6_cooled
  rw [hv]
  rcases cool_i hc hc2 hh with ⟨-, e⟩ | ⟨e1, e⟩
  · rw [e]
    by_cases hz : cool c h = 0
    · rw [hz]
      rfl
    · rw [if_neg (nI_nle (by omega) (by omega))]
  · rw [e, e1, if_pos (by decide)]
    rfl
