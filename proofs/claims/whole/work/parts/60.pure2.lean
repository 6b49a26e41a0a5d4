/-! cooling, in numbers -/
def cool (c h : Nat) : Nat := h - h / c - 1
theorem cool_le (c h : Nat) : cool c h ≤ h := Nat.le_trans (Nat.sub_le _ _) (Nat.sub_le _ _)
theorem cool_z (c : Nat) : cool c 0 = 0 := Nat.le_zero.mp (cool_le c 0)
def coolN (c : Nat) : Nat → Nat → Nat
  | 0, h => h
  | t + 1, h => coolN c t (cool c h)
theorem coolN_z (c t : Nat) : coolN c t 0 = 0 := by
  induction t with
  | zero => rfl
  | succ t ih => show coolN c t (cool c 0) = 0; rw [cool_z]; exact ih
theorem coolN_le (c t : Nat) : ∀ h, coolN c t h ≤ h := by
  induction t with
  | zero => exact fun h => Nat.le_refl _
  | succ t ih => exact fun h => Nat.le_trans (ih _) (cool_le c h)
theorem cool_i {c h : Nat} (hc : 1 ≤ c) (hc2 : c < 2 ^ 30) (hh : h < 2 ^ 30) : (h / c < h ∧ nI h - nI h / nI c - 1 = nI (cool c h)) ∨ (cool c h = 0 ∧ nI h - nI h / nI c - 1 = -1) := by
  have hd : h / c ≤ h := Nat.div_le_self _ _
  rw [pk_div (by omega) (by omega) (by omega), pk_sub hd]
  by_cases hlt : h / c < h
  · refine Or.inl ⟨hlt, ?_⟩
    exact pk_sub (a := h - h / c) (b := 1) (by omega)
  · refine Or.inr ⟨?_, ?_⟩
    · unfold cool
      have e : h / c = h := Nat.le_antisymm hd (Nat.not_lt.mp hlt)
      rw [e, Nat.sub_self]
    · have e : h / c = h := Nat.le_antisymm hd (Nat.not_lt.mp hlt)
      rw [e, Nat.sub_self]
      rfl
theorem cooled_X2 {c h : Nat} (hc : 1 ≤ c) (hc2 : c < 2 ^ 30) (hh : h < 2 ^ 30) : fX2_cooled (nI h) (nI c) = nI (cool c h) := by
  have hle := cool_le c h
  unfold fX2_cooled
  rw [if_pos (show (1 : Int32) ≤ nI c from nI_le (a := 1) hc (by omega))]
  rcases cool_i hc hc2 hh with ⟨-, e⟩ | ⟨e1, e⟩
  · rw [e, if_pos (nI_pos' (by omega))]
  · rw [e, e1, if_neg (by decide)]
    rfl
theorem cooled_X6 {v : SV} {c h : Nat} (hv : v 0 75 = nI c) (hc : 1 ≤ c) (hc2 : c < 2 ^ 30) (hh : h < 2 ^ 30) : fX6_cooled v (nI h) = nI (cool c h) := by
  have hle := cool_le c h
  unfold fX6_cooled
  rw [hv]
  rcases cool_i hc hc2 hh with ⟨-, e⟩ | ⟨e1, e⟩
  · rw [e]
    by_cases hz : cool c h = 0
    · rw [hz]
      rfl
    · rw [if_neg (nI_nle (by omega) (by omega))]
  · rw [e, e1, if_pos (by decide)]
    rfl
theorem at7 (f : Nat → Int32) (i : Nat) (hi : i < 7) : fX5_at 7 f (nI i) = f i := by
  unfold fX5_at
  rw [if_neg (nI_pos (by omega)), if_neg (nI_ge hi (by omega)), nI_clamp (by omega)]
theorem cooledFor_l {v : SV} {x1 : Int32} {c t : Nat} (hc : 1 ≤ c) (hc2 : c < 2 ^ 30) (ht : t < 2 ^ 30) (n : Nat) : ∀ (i h : Nat), i + n = t + 1 → i ≤ t → h < 2 ^ 30 → (lpB n (bX2_cooledFor_15 v x1 (nI t) (nI c)) (nI h, nI i)).1 = nI (coolN c (t - i) h) := by
  induction n with
  | zero => intro i h h1 h2 h3; omega
  | succ n ih =>
    intro i h h1 h2 h3
    have hle := cool_le c h
    by_cases k1 : t ≤ i
    · have e : bX2_cooledFor_15 v x1 (nI t) (nI c) (nI h, nI i) = (false, (nI h, nI i)) := by
        unfold bX2_cooledFor_15
        exact if_pos (nI_le k1 (by omega))
      rw [lpB, e, show t - i = 0 by omega]
      rfl
    · by_cases k2 : h = 0
      · have e : bX2_cooledFor_15 v x1 (nI t) (nI c) (nI h, nI i) = (false, (nI h, nI i)) := by
          unfold bX2_cooledFor_15
          refine (if_neg (nI_ge (by omega) (by omega))).trans (if_pos ?_)
          rw [k2]
          exact (show nI 0 ≤ 0 by decide)
        rw [lpB, e, k2, coolN_z]
        rfl
      · have e : bX2_cooledFor_15 v x1 (nI t) (nI c) (nI h, nI i) = (true, (nI (cool c h), nI (i + 1))) := by
          unfold bX2_cooledFor_15
          refine (if_neg (nI_ge (by omega) (by omega))).trans ((if_neg (nI_nle (by omega) (by omega))).trans ?_)
          show (true, (fX2_cooled (nI h) (nI c), nI i + 1)) = _
          rw [cooled_X2 hc hc2 h3, nI_1]
        rw [lpB, e]
        show (lpB n (bX2_cooledFor_15 v x1 (nI t) (nI c)) (nI (cool c h), nI (i + 1))).1 = _
        rw [ih (i + 1) (cool c h) (by omega) (by omega) (by omega), show t - i = (t - (i + 1)) + 1 by omega]
        rfl
theorem cooledFor_X2 {v : SV} {c h t : Nat} (hv : v 2 1 = nI c) (hc : 1 ≤ c) (hc2 : c < 2 ^ 30) (hh : h < 2 ^ 30) (ht : t < 2 ^ 30) : fX2_cooledFor v (nI h) (nI t) = nI (coolN c t h) := by
  unfold fX2_cooledFor tX2_cooledFor_15
  dsimp only
  rw [show fX5_at 7 (v 2) 1 = nI c from (at7 (v 2) 1 (by omega)).trans hv, nI_clamp (by omega)]
  exact cooledFor_l hc hc2 ht (t + 1) 0 h (by omega) (by omega) hh
