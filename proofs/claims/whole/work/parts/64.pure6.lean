theorem lpF_congr {σ : Type} (n : Nat) : ∀ (i : Nat) (b b' : Nat → σ → σ) (s : σ), (∀ d s, i ≤ d → d < i + n → b d s = b' d s) → lpF n i b s = lpF n i b' s := by
  induction n with
  | zero => intro i b b' s _; rfl
  | succ n ih =>
    intro i b b' s h
    show lpF n (i + 1) b (b i s) = lpF n (i + 1) b' (b' i s)
    rw [h i s (Nat.le_refl _) (by omega)]
    exact ih (i + 1) b b' _ (fun d s h1 h2 => h d s (by omega) (by omega))
theorem RelS_time {v v' : SV} {r r' : Nat → Int32} {x : Int32} {f : Nat → Int32} (R : RelS v r)
    (a1 : ∀ d, v' 0 d = if d < 24 then f d else v 0 d) (a2 : ∀ k, 1 ≤ k → k < 8 → v' k = v k) (a3 : v' 8 1 = v 8 1 + x) (a4 : ∀ k, k < 11 → k ≠ 1 → v' 8 k = v 8 k)
    (b1 : ∀ d, r' d = if d < 24 then f d else if d = 82 then r 82 + x else r d) : RelS v' r' := by
  have hb : ∀ d, 24 ≤ d → d ≠ 82 → r' d = r d := fun d h1 h2 => by rw [b1, if_neg (by omega), if_neg h2]
  obtain ⟨c1, ⟨c2, c3⟩, c4, c5, c6, ⟨c7, c8, c9, c10, c11, c12, c13⟩, c14, c15, c16⟩ := R
  refine ⟨fun d hd => ?_, ⟨?_, ?_⟩, fun d hd => ?_, fun d hd => ?_, fun i hi => ?_, ⟨?_, ?_, ?_, ?_, ?_, ?_, ?_⟩, fun j hj hj2 => ⟨?_, ?_, ?_⟩, ?_, ?_⟩
  · rw [a1, b1, if_pos hd, if_pos hd]
  · rw [a4 8 (by omega) (by omega), hb 24 (by omega) (by omega)]; exact c2
  · rw [a4 9 (by omega) (by omega), hb 25 (by omega) (by omega)]; exact c3
  · rw [a2 6 (by omega) (by omega), hb (26 + d) (by omega) (by omega)]; exact c4 d hd
  · rw [a2 7 (by omega) (by omega), hb (50 + d) (by omega) (by omega)]; exact c5 d hd
  · rw [a2 2 (by omega) (by omega), hb (74 + i) (by omega) (by omega)]; exact c6 i hi
  · rw [a4 10 (by omega) (by omega), hb 81 (by omega) (by omega)]; exact c7
  · rw [a3, b1 82, if_neg (by omega), if_pos rfl, c8]
  · rw [a4 2 (by omega) (by omega), hb 83 (by omega) (by omega)]; exact c9
  · rw [a4 3 (by omega) (by omega), hb 84 (by omega) (by omega)]; exact c10
  · rw [a4 4 (by omega) (by omega), hb 85 (by omega) (by omega)]; exact c11
  · rw [a4 7 (by omega) (by omega), hb 86 (by omega) (by omega)]; exact c12
  · rw [a4 0 (by omega) (by omega), hb 87 (by omega) (by omega)]; exact c13
  · rw [hb 87 (by omega) (by omega)] at hj
    rw [a2 3 (by omega) (by omega), hb (88 + 3 * j) (by omega) (by omega)]; exact (c14 j hj hj2).1
  · rw [hb 87 (by omega) (by omega)] at hj
    rw [a2 4 (by omega) (by omega), hb (89 + 3 * j) (by omega) (by omega)]; exact (c14 j hj hj2).2.1
  · rw [hb 87 (by omega) (by omega)] at hj
    rw [a2 5 (by omega) (by omega), hb (90 + 3 * j) (by omega) (by omega)]; exact (c14 j hj hj2).2.2
  · rw [a4 5 (by omega) (by omega), c15]
    exact smF_congr 24 (fun d hd => (hb (26 + d) (by omega) (by omega)).symm)
  · rw [a4 6 (by omega) (by omega), c16]
    exact smF_congr 24 (fun d hd => (hb (50 + d) (by omega) (by omega)).symm)
theorem RelS_pass {v m : SV} {c t : Nat} {h : Nat → Nat} (R : RelS v (m 0)) (hc : 1 ≤ c) (hc2 : c < 2 ^ 30) (ht : t < 2 ^ 30) (hh : ∀ d, h d < 2 ^ 30) (h75 : m 0 75 = nI c) (h0 : ∀ d, d < 24 → m 0 d = nI (h d)) : RelS (fX2_passTime v (nI t)) (fX6_pass m (nI t) 0) := by
  obtain ⟨a1, a2, a3, a4⟩ := pu_time (v := v) (h := h) hc hc2 ht hh ((R.2.2.2.2.1 1 (by omega)).trans h75) (fun d hd => (R.1 d hd).trans (h0 d hd))
  obtain ⟨b1, -, -⟩ := pu_pass hc hc2 ht hh h75 h0
  exact RelS_time R a1 a2 a3 a4 b1
