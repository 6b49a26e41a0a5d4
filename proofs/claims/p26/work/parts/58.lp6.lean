/-! a line, whole -/
/-- the strip moves -/
theorem shift_n {v w : SV} {x6 y6 y8 y9 : Int32} {u : SV} (hu : u = lpD 33 (bL_prints_416 v x6 y6 y8 y9) w) : (∀ j, 3 ≤ j → j < 36 → u 3 j = w 3 (j - 3)) ∧ u 0 = w 0 ∧ u 1 = w 1 ∧ u 2 = w 2 ∧ u 4 = w 4 := by
  rw [hu]
  have h := lpD_0 (fun d (t : SV) => (∀ j, d + 2 < j → j < 36 → t 3 j = w 3 (j - 3)) ∧ (∀ j, j ≤ d + 2 → t 3 j = w 3 j) ∧ t 0 = w 0 ∧ t 1 = w 1 ∧ t 2 = w 2 ∧ t 4 = w 4) (b := bL_prints_416 v x6 y6 y8 y9) 33 w ?_ ⟨fun j h1 h2 => by omega, fun _ _ => rfl, rfl, rfl, rfl, rfl⟩
  · exact ⟨fun j h1 h2 => h.1 j (by omega) h2, h.2.2⟩
  · intro d t hd a
    obtain ⟨a1, a2, a3, a4, a5, a6⟩ := a
    refine ⟨fun j h1 h2 => ?_, fun j h1 => ?_, a3, a4, a5, a6⟩
    · show upd (t 3) (d + 1 + 2) (t 3 (d + 1 + 2 - 3)) j = _
      by_cases z : j = d + 1 + 2
      · subst z
        rw [pk_us, a2 _ (by omega)]
      · rw [pk_un z]
        exact a1 j (by omega) h2
    · show upd (t 3) (d + 1 + 2) (t 3 (d + 1 + 2 - 3)) j = _
      rw [pk_un (by omega)]
      exact a2 j (by omega)
/-- what is written behind the parts -/
def fin (w : SV) (dots y6 y8 y9 n15 : Int32) (u : SV) : Prop :=
  u 0 = w 0 ∧ u 1 = w 1 ∧ u 2 = w 2 ∧ (∀ j, 3 ≤ j → u 3 j = w 3 j) ∧ u 3 0 = y9 ∧ u 3 1 = dots ^^^ y9 ∧ u 3 2 = y8 ∧ (∀ j, j < 9 → u 4 j = w 4 j) ∧ u 4 9 = w 4 9 + 1 ∧ u 4 10 = w 4 10 + y8 ∧ u 4 11 = w 4 11 + w 4 17 ∧ u 4 12 = (if w 4 20 ≤ w 4 12 then w 4 12 else w 4 20) ∧ u 4 13 = dots ∧ u 4 14 = w 4 13 ∧ u 4 15 = n15 ∧ u 4 16 = w 4 8 - y6 ∧ u 4 17 = w 4 17 ∧ u 4 18 = y8 ∧ u 4 19 = fL_ones (dots ^^^ y9) ∧ u 4 20 = w 4 20
theorem fin_n (v w : SV) (x6 y6 y8 y9 : Int32) : fin w x6 y6 y8 y9 (w 4 15 + if 12 ≤ w 4 15 then 0 else 1) (tL_prints_416 v x6 y6 y8 y9 w) := by
  have k : ∀ z3 : Int32, fin w x6 y6 y8 y9 (w 4 15 + z3) (tL_prints_J477 v x6 y6 y8 (w 4 15) z3 (mkL (w 0) (w 1) (w 2) (upd (upd (upd (w 3) 0 y9) 1 (x6 ^^^ y9)) 2 y8) (w 4))) := by
    intro z3
    have q : ∀ (z n : Int32), z = (if w 4 20 ≤ w 4 12 then w 4 12 else w 4 20) → fin w x6 y6 y8 y9 (w 4 15 + z3) (tL_prints_J558 v x6 y6 y8 z (mkL (w 0) (w 1) (w 2) (upd (upd (upd (w 3) 0 y9) 1 (x6 ^^^ y9)) 2 y8) (upd (upd (upd (upd (upd (upd (w 4) 15 (w 4 15 + z3)) 14 (w 4 13)) 13 x6) 9 (w 4 9 + 1)) 10 (w 4 10 + y8)) 11 (w 4 11 + w 4 17)))) := by
      intro z n hz
      unfold tL_prints_J558
      refine ⟨rfl, rfl, rfl, fun j hj => ?_, rfl, rfl, rfl, fun j hj => ?_, rfl, rfl, rfl, hz, rfl, rfl, rfl, rfl, rfl, rfl, rfl, rfl⟩
      · show upd (upd (upd (w 3) 0 y9) 1 (x6 ^^^ y9)) 2 y8 j = _
        rw [pk_un (by omega), pk_un (by omega), pk_un (by omega)]
      · show upd (upd (upd (upd (upd (upd (upd (upd (upd (upd (w 4) 15 _) 14 _) 13 _) 9 _) 10 _) 11 _) 12 _) 16 _) 18 _) 19 _ j = _
        rw [pk_un (by omega), pk_un (by omega), pk_un (by omega), pk_un (by omega), pk_un (by omega), pk_un (by omega), pk_un (by omega), pk_un (by omega), pk_un (by omega), pk_un (by omega)]
    unfold tL_prints_J477
    by_cases h : w 4 20 ≤ w 4 12
    · have e := q (w 4 12) 0 (if_pos h).symm
      exact (if_pos h).symm ▸ e
    · have e := q (w 4 20) 0 (if_neg h).symm
      exact (if_neg h).symm ▸ e
  unfold tL_prints_416
  by_cases h : 12 ≤ w 4 15
  · have e := k 0
    rw [if_pos h]
    exact (if_pos h).symm ▸ e
  · have e := k 1
    rw [if_neg h]
    exact (if_neg h).symm ▸ e
