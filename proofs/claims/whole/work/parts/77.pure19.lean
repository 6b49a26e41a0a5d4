/-! looks -/
def hoN (r : Nat → Int32) : Nat := mxN 24 (fun _ => true) (aN r)
theorem hoN_le {B : Nat} {r : Nat → Int32} (G : Gd B r) : hoN r ≤ 900 := mxN_le 24 (fun d hd _ => (G.2.1 d hd).2)
theorem hottestDot_2 {v : SV} {r : Nat → Int32} {B : Nat} (G : Gd B r) (R : ∀ d, d < 24 → v 0 d = r d) : fX2_hottestDot v = nI (hoN r) := by
  unfold fX2_hottestDot tX2_hottestDot_4
  dsimp only
  refine lpF_0 (fun i s => i ≤ 24 → s = nI (mxN i (fun _ => true) (aN r))) 24 0 ?_ (fun _ => nI_0.symm) (Nat.le_refl _)
  intro d s hd hs _
  rw [hs (by omega), mxN_t rfl]
  unfold bX2_hottestDot_4
  dsimp only
  have g1 : mxN d (fun _ => true) (aN r) ≤ 900 := mxN_le d (fun j hj _ => (G.2.1 j (by omega)).2)
  have g2 := (G.2.1 d hd).2
  rw [R d hd, (G.2.1 d hd).1]
  exact imx (by omega) (by omega)
theorem hottestNow_6 {w : SV} {B : Nat} (G : Gd B (w 0)) : fX6_hottestNow w = nI (hoN (w 0)) := by
  unfold fX6_hottestNow tX6_hottestNow_4
  dsimp only
  refine lpF_0 (fun i s => i ≤ 24 → s = nI (mxN i (fun _ => true) (aN (w 0)))) 24 0 ?_ (fun _ => nI_0.symm) (Nat.le_refl _)
  intro d s hd hs _
  rw [hs (by omega), mxN_t rfl]
  unfold bX6_hottestNow_4
  dsimp only
  have g1 : mxN d (fun _ => true) (aN (w 0)) ≤ 900 := mxN_le d (fun j hj _ => (G.2.1 j (by omega)).2)
  have g2 := (G.2.1 d hd).2
  rw [(G.2.1 d hd).1]
  exact imx2 (by omega) (by omega)
theorem sum_6 (w : SV) (k : Nat) : fX6_sum w k = smF 24 (fun d => w 0 (k + d)) := smF_lp (fun d => w 0 (k + d)) 24
theorem dotByDot_2 {v : SV} {r : Nat → Int32} (R : RelS v r) : fX4_dotByDot v = smF 24 (fun d => r (26 + d)) := (smF_lp (fun d => v 6 d) 24).trans (smF_congr 24 (fun d hd => R.2.2.1 d hd))
theorem coolIn_eq {v w : SV} {B m : Nat} (G : Gd B (w 0)) (R : RelS v (w 0)) (hm : m ≤ 900) : fX2_timeUntilCool v (nI m) = fX6_timeToCool w (nI m) := by
  obtain ⟨-, ⟨h75, b1, b2⟩, -⟩ := SI_n G.1
  have hmT : mT = 2147483648 := rfl
  have hl := hoN_le G
  have hw := wN_le (aN (w 0) 75) m (hoN (w 0))
  unfold fX2_timeUntilCool fX6_timeToCool tX6_timeToCool_7
  dsimp only
  rw [hottestDot_2 G R.1, hottestNow_6 G, timeDownTo_n (c := aN (w 0) 75) (by rw [R.2.2.2.2.1 1 (by omega)]; exact h75) (by omega) (by omega) hl (by omega)]
  refine (lpB_ind (Q := fun s : Int32 × Int32 => s.1 = nI (wN (aN (w 0) 75) m (hoN (w 0)))) (fun i s => s = (nI i, nI (coolN (aN (w 0) 75) i (hoN (w 0))))) (wN (aN (w 0) 75) m (hoN (w 0))) ?_ ?_ (mT + 1) 0 _ (Nat.zero_le _) (by omega) ?_).symm
  · rintro i s hi rfl
    have h1 : m < coolN (aN (w 0) 75) i (hoN (w 0)) := Nat.not_le.mp (fun q => Nat.not_le.mpr hi (wN_c.mp q))
    have h2 := coolN_le (aN (w 0) 75) i (hoN (w 0))
    have e : bX6_timeToCool_7 w (nI m) (nI i, nI (coolN (aN (w 0) 75) i (hoN (w 0)))) = (true, (nI (i + 1), nI (coolN (aN (w 0) 75) (i + 1) (hoN (w 0))))) := by
      unfold bX6_timeToCool_7
      refine (if_neg (nI_ge h1 (by omega))).trans ?_
      show (true, (nI i + 1, fX6_cooled w (nI (coolN (aN (w 0) 75) i (hoN (w 0)))))) = _
      rw [cooled_X6 h75 (by omega) (by omega) (by omega), nI_1, coolN_s]
    rw [e]
    exact ⟨rfl, rfl⟩
  · rintro s rfl
    have e : bX6_timeToCool_7 w (nI m) (nI (wN (aN (w 0) 75) m (hoN (w 0))), nI (coolN (aN (w 0) 75) (wN (aN (w 0) 75) m (hoN (w 0))) (hoN (w 0)))) = (false, (nI (wN (aN (w 0) 75) m (hoN (w 0))), nI (coolN (aN (w 0) 75) (wN (aN (w 0) 75) m (hoN (w 0))) (hoN (w 0))))) := by
      unfold bX6_timeToCool_7
      exact if_pos (nI_le (wN_c.mpr (Nat.le_refl _)) (by omega))
    rw [e]
    exact ⟨rfl, rfl⟩
  · rw [← nI_0]
    rfl
/-! a dot, alone -/
theorem pulseAlone_2 {v : SV} {r : Nat → Int32} {d s : Nat} (hI : SI r) (R : RelS v r) (h1 : 50 ≤ s) (h2 : s ≤ 300) : fX2_pulseAlone v (nI d) (nI s) = nI (psN r 0 d (nI s)) := by
  unfold fX2_pulseAlone
  rw [pulseIn_pl, R.2.2.2.2.2.1.1, R.2.1.1, R.2.1.2]
  exact (psN_spec hI 0 d h1 h2).1
theorem pulseBy_6 {w : SV} {d s : Nat} (hI : SI (w 0)) (hd : d < 24) (h1 : 50 ≤ s) (h2 : s ≤ 300) : fX6_pulseBy w ((1 : Int32) <<< (nI d &&& 31)) (nI d) (nI s) = nI (psN (w 0) 0 d (nI s)) := by
  obtain ⟨-, -, -, -, -, -, -, q1, q2⟩ := SI_n hI
  rw [pulseBy_pl q1 q2, pl_alone _ _ _ _ hd]
  exact (psN_spec hI 0 d h1 h2).1
theorem waitFor_2 {v : SV} {r : Nat → Int32} {h p : Nat} (hI : SI r) (R : RelS v r) (hh : h ≤ 900) (hp : p ≤ 325) : fX2_waitFor v (nI h) (nI p) = nI (wN (aN r 75) (aN r 76 - p) h) := by
  obtain ⟨-, ⟨h75, b1, b2⟩, ⟨h76, b3, b4⟩, -⟩ := SI_n hI
  unfold fX2_waitFor
  rw [show fX5_at 7 (v 2) 2 = nI (aN r 76) from (at7 (v 2) 2 (by omega)).trans (by rw [R.2.2.2.2.1 2 (by omega)]; exact h76), pk_sub (by omega)]
  exact timeDownTo_n (by rw [R.2.2.2.2.1 1 (by omega)]; exact h75) (by omega) (by omega) hh (by omega)
theorem waitOf_6 {w : SV} {B d : Nat} (G : Gd B (w 0)) (hd : d < 24) : fX6_waitOf w d = nI (wN (aN (w 0) 75) (aN (w 0) 76 - psN (w 0) 0 d (w 0 74)) (aN (w 0) d)) := by
  obtain ⟨⟨h74, c1, c2⟩, ⟨h75, b1, b2⟩, ⟨h76, b3, b4⟩, -⟩ := SI_n G.1
  obtain ⟨hd1, hd2⟩ := G.2.1 d hd
  have hmT : mT = 2147483648 := rfl
  have ep : fX6_pulse w ((1 : Int32) <<< (nI d &&& 31)) (nI d) = nI (psN (w 0) 0 d (w 0 74)) := by
    unfold fX6_pulse
    rw [h74]
    exact pulseBy_6 G.1 hd c1 c2
  have hp := (psN_spec G.1 0 d c1 c2).2
  rw [← h74] at hp
  have hw := wN_le (aN (w 0) 75) (aN (w 0) 76 - psN (w 0) 0 d (w 0 74)) (aN (w 0) d)
  unfold fX6_waitOf tX6_waitOf_9
  dsimp only
  refine lpB_ind (Q := fun s : Int32 × Int32 => s.2 = nI (wN (aN (w 0) 75) (aN (w 0) 76 - psN (w 0) 0 d (w 0 74)) (aN (w 0) d))) (fun i s => s = (nI (coolN (aN (w 0) 75) i (aN (w 0) d)), nI i)) (wN (aN (w 0) 75) (aN (w 0) 76 - psN (w 0) 0 d (w 0 74)) (aN (w 0) d)) ?_ ?_ (mT + 1) 0 _ (Nat.zero_le _) (by omega) ?_
  · rintro i s hi rfl
    have h1 : aN (w 0) 76 - psN (w 0) 0 d (w 0 74) < coolN (aN (w 0) 75) i (aN (w 0) d) := Nat.not_le.mp (fun q => Nat.not_le.mpr hi (wN_c.mp q))
    have h2 := coolN_le (aN (w 0) 75) i (aN (w 0) d)
    have e : bX6_waitOf_9 w d (nI (coolN (aN (w 0) 75) i (aN (w 0) d)), nI i) = (true, (nI (coolN (aN (w 0) 75) (i + 1) (aN (w 0) d)), nI (i + 1))) := by
      unfold bX6_waitOf_9
      dsimp only
      rw [ep, nI_add]
      refine (if_neg (by rw [h76]; exact nI_ge (by omega) (by omega))).trans ?_
      rw [cooled_X6 h75 (by omega) (by omega) (by omega), nI_1, coolN_s]
    rw [e]
    exact ⟨rfl, rfl⟩
  · rintro s rfl
    have h2 := coolN_le (aN (w 0) 75) (wN (aN (w 0) 75) (aN (w 0) 76 - psN (w 0) 0 d (w 0 74)) (aN (w 0) d)) (aN (w 0) d)
    have h1 : coolN (aN (w 0) 75) (wN (aN (w 0) 75) (aN (w 0) 76 - psN (w 0) 0 d (w 0 74)) (aN (w 0) d)) (aN (w 0) d) ≤ aN (w 0) 76 - psN (w 0) 0 d (w 0 74) := wN_c.mpr (Nat.le_refl _)
    unfold bX6_waitOf_9
    dsimp only
    rw [ep, nI_add, if_pos (by rw [h76]; exact nI_le (by omega) (by omega))]
    exact ⟨rfl, rfl⟩
  · rw [← nI_0, hd1]
    rfl
theorem ofDot_eq {v w : SV} {B d : Nat} (G : Gd B (w 0)) (R : RelS v (w 0)) (hd : d < 24) (x : Int32) : fX2_numberOfDot v (nI d) x = fX6_ofDot w d x := by
  obtain ⟨⟨h74, c1, c2⟩, -⟩ := SI_n G.1
  obtain ⟨hd1, hd2⟩ := G.2.1 d hd
  have hp := (psN_spec G.1 0 d c1 c2).2
  have a0 : fX5_at 24 (v 0) (nI d) = w 0 d := (atN (v 0) hd (by omega)).trans (R.1 d hd)
  have s0 : fX5_at 7 (v 2) 0 = w 0 74 := (at7 (v 2) 0 (by omega)).trans (R.2.2.2.2.1 0 (by omega))
  have p0 : fX2_pulseAlone v (nI d) (w 0 74) = nI (psN (w 0) 0 d (w 0 74)) := by
    rw [h74]
    exact pulseAlone_2 G.1 R c1 c2
  unfold fX2_numberOfDot fX6_ofDot
  rw [a0, R.2.1.1, R.2.1.2, (atN (v 6) hd (by omega)).trans (R.2.2.1 d hd), (atN (v 7) hd (by omega)).trans (R.2.2.2.1 d hd), s0, p0, bit_eq, bit_eq, waitOf_6 G hd]
  have e5 : fX6_pulse w ((1 : Int32) <<< (nI d &&& 31)) (nI d) = nI (psN (w 0) 0 d (w 0 74)) := by
    unfold fX6_pulse
    rw [h74]
    exact pulseBy_6 G.1 hd c1 c2
  rw [e5]
  have e6 : fX2_waitFor v (w 0 d) (nI (psN (w 0) 0 d (w 0 74))) = nI (wN (aN (w 0) 75) (aN (w 0) 76 - psN (w 0) 0 d (w 0 74)) (aN (w 0) d)) := by
    rw [hd1]
    exact waitFor_2 G.1 R hd2 (by rw [h74]; exact hp.2)
  rw [e6]
/-! the least setting with which a dot is dark -/
def dkB (r : Nat → Int32) (d s : Nat) : Bool := decide (dkN (aN r 81) ≤ coolN (aN r 75) (wN (aN r 75) (aN r 76 - psN r 0 d (nI s)) (aN r d)) (aN r d) + psN r 0 d (nI s))
theorem dkB_2 {v : SV} {r : Nat → Int32} {B d s : Nat} (G : Gd B r) (R : RelS v r) (hd : d < 24) (h1 : 50 ≤ s) (h2 : s ≤ 300) : fX2_isDark v ((fX2_cooledFor v (fX5_at 24 (v 0) (nI d)) (fX2_waitFor v (fX5_at 24 (v 0) (nI d)) (fX2_pulseAlone v (nI d) (nI s)))) + (fX2_pulseAlone v (nI d) (nI s))) = if dkB r d s then 1 else 0 := by
  obtain ⟨-, ⟨h75, b1, b2⟩, -, -, -, -, -, h81, q2⟩ := SI_n G.1
  obtain ⟨hd1, hd2⟩ := G.2.1 d hd
  obtain ⟨-, p1, p2⟩ := psN_spec G.1 0 d h1 h2
  have a0 : fX5_at 24 (v 0) (nI d) = nI (aN r d) := (atN (v 0) hd (by omega)).trans ((R.1 d hd).trans hd1)
  have hw := wN_le (aN r 75) (aN r 76 - psN r 0 d (nI s)) (aN r d)
  have hc := coolN_le (aN r 75) (wN (aN r 75) (aN r 76 - psN r 0 d (nI s)) (aN r d)) (aN r d)
  rw [a0, pulseAlone_2 G.1 R h1 h2, waitFor_2 G.1 R hd2 p2, cooledFor_X2 (c := aN r 75) (by rw [R.2.2.2.2.1 1 (by omega)]; exact h75) (by omega) (by omega) (by omega) (by omega), nI_add, isDark_2 (p := aN r 81) (by rw [R.2.2.2.2.2.1.1]; exact h81) q2 (by omega)]
  unfold dkB
  by_cases z : dkN (aN r 81) ≤ coolN (aN r 75) (wN (aN r 75) (aN r 76 - psN r 0 d (nI s)) (aN r d)) (aN r d) + psN r 0 d (nI s)
  · rw [if_pos z, if_pos (decide_eq_true z)]
  · rw [if_neg z, if_neg (by rw [decide_eq_false z]; decide)]
theorem dkB_6 {w : SV} {B d s : Nat} (G : Gd B (w 0)) (hd : d < 24) (h1 : 50 ≤ s) (h2 : s ≤ 300) : fX6_isDarkBy w d (nI s) = if dkB (w 0) d s then 1 else 0 := by
  obtain ⟨-, ⟨h75, b1, b2⟩, ⟨h76, b3, b4⟩, -, -, -, -, h81, q2⟩ := SI_n G.1
  obtain ⟨hd1, hd2⟩ := G.2.1 d hd
  obtain ⟨-, p1, p2⟩ := psN_spec G.1 0 d h1 h2
  have hmT : mT = 2147483648 := rfl
  have hw := wN_le (aN (w 0) 75) (aN (w 0) 76 - psN (w 0) 0 d (nI s)) (aN (w 0) d)
  have hc := coolN_le (aN (w 0) 75) (wN (aN (w 0) 75) (aN (w 0) 76 - psN (w 0) 0 d (nI s)) (aN (w 0) d)) (aN (w 0) d)
  have hk : dkN (aN (w 0) 81) ≤ 150 := by unfold dkN; split <;> (try split) <;> omega
  unfold fX6_isDarkBy
  rw [pulseBy_6 G.1 hd h1 h2]
  have L : lpB (mT + 1) (bX6_isDarkBy_18 w d (nI s) (nI (psN (w 0) 0 d (nI s)))) (w 0 d) = nI (coolN (aN (w 0) 75) (wN (aN (w 0) 75) (aN (w 0) 76 - psN (w 0) 0 d (nI s)) (aN (w 0) d)) (aN (w 0) d)) := by
    refine lpB_ind (Q := fun z : Int32 => z = nI (coolN (aN (w 0) 75) (wN (aN (w 0) 75) (aN (w 0) 76 - psN (w 0) 0 d (nI s)) (aN (w 0) d)) (aN (w 0) d))) (fun i z => z = nI (coolN (aN (w 0) 75) i (aN (w 0) d))) (wN (aN (w 0) 75) (aN (w 0) 76 - psN (w 0) 0 d (nI s)) (aN (w 0) d)) ?_ ?_ (mT + 1) 0 _ (Nat.zero_le _) (by omega) hd1
    · rintro i z hi rfl
      have g1 : aN (w 0) 76 - psN (w 0) 0 d (nI s) < coolN (aN (w 0) 75) i (aN (w 0) d) := Nat.not_le.mp (fun q => Nat.not_le.mpr hi (wN_c.mp q))
      have g2 := coolN_le (aN (w 0) 75) i (aN (w 0) d)
      have e : bX6_isDarkBy_18 w d (nI s) (nI (psN (w 0) 0 d (nI s))) (nI (coolN (aN (w 0) 75) i (aN (w 0) d))) = (true, nI (coolN (aN (w 0) 75) (i + 1) (aN (w 0) d))) := by
        unfold bX6_isDarkBy_18
        dsimp only
        rw [nI_add]
        refine (if_neg (by rw [h76]; exact nI_ge (by omega) (by omega))).trans ?_
        rw [cooled_X6 h75 (by omega) (by omega) (by omega), coolN_s]
      rw [e]
      exact ⟨rfl, rfl⟩
    · rintro z rfl
      have g1 : coolN (aN (w 0) 75) (wN (aN (w 0) 75) (aN (w 0) 76 - psN (w 0) 0 d (nI s)) (aN (w 0) d)) (aN (w 0) d) ≤ aN (w 0) 76 - psN (w 0) 0 d (nI s) := wN_c.mpr (Nat.le_refl _)
      unfold bX6_isDarkBy_18
      dsimp only
      rw [nI_add, if_pos (by rw [h76]; exact nI_le (by omega) (by omega))]
      exact ⟨rfl, rfl⟩
  rw [L]
  unfold tX6_isDarkBy_18
  dsimp only
  rw [nI_add, darkHeat_6 G.1]
  unfold dkB
  by_cases z : dkN (aN (w 0) 81) ≤ coolN (aN (w 0) 75) (wN (aN (w 0) 75) (aN (w 0) 76 - psN (w 0) 0 d (nI s)) (aN (w 0) d)) (aN (w 0) d) + psN (w 0) 0 d (nI s)
  · rw [if_neg (nI_nlt z (by omega)), if_pos (decide_eq_true z)]
  · rw [if_pos (nI_lt (by omega) (by omega)), if_neg (by rw [decide_eq_false z]; decide)]
theorem lpR_snoc (p : Nat → Bool) (n : Nat) : ∀ (i : Nat) (q : Int32), Sum.elim (fun _ => q) id (lpR (n + 1) i (fun d (_ : Unit) => if p d then (Sum.inr (nI d) : Unit ⊕ Int32) else Sum.inl ()) ()) = Sum.elim (fun _ => if p (i + n) then nI (i + n) else q) id (lpR n i (fun d (_ : Unit) => if p d then (Sum.inr (nI d) : Unit ⊕ Int32) else Sum.inl ()) ()) := by
  induction n with
  | zero =>
    intro i q
    by_cases h : p i = true
    · rw [lpR_r (if_pos h)]
      show nI i = if p (i + 0) then nI (i + 0) else q
      rw [Nat.add_zero, if_pos h]
    · rw [lpR_l (if_neg h)]
      show q = if p (i + 0) then nI (i + 0) else q
      rw [Nat.add_zero, if_neg h]
  | succ n ih =>
    intro i q
    by_cases h : p i = true
    · rw [lpR_r (if_pos h), lpR_r (if_pos h)]
      rfl
    · have e : ∀ m, lpR (m + 1) i (fun d (_ : Unit) => if p d then (Sum.inr (nI d) : Unit ⊕ Int32) else Sum.inl ()) () = lpR m (i + 1) (fun d (_ : Unit) => if p d then (Sum.inr (nI d) : Unit ⊕ Int32) else Sum.inl ()) () := fun m => lpR_l (if_neg h)
      rw [e (n + 1), e n, ih (i + 1) q, show i + 1 + n = i + (n + 1) by omega]
theorem lpD_R (p : Nat → Bool) (n : Nat) : ∀ q : Int32, lpD n (fun d s => if p (d + 49) then nI (d + 49) else s) q = Sum.elim (fun _ => q) id (lpR n 50 (fun d (_ : Unit) => if p d then (Sum.inr (nI d) : Unit ⊕ Int32) else Sum.inl ()) ()) := by
  induction n with
  | zero => exact fun q => rfl
  | succ n ih =>
    intro q
    rw [lpR_snoc, show 50 + n = n + 1 + 49 by omega]
    exact ih _
theorem lpR_congr {σ ρ : Type} {b b' : Nat → σ → σ ⊕ ρ} (n : Nat) : ∀ (i : Nat) (s : σ), (∀ d t, i ≤ d → d < i + n → b d t = b' d t) → lpR n i b s = lpR n i b' s := by
  induction n with
  | zero => exact fun i s _ => rfl
  | succ n ih =>
    intro i s h
    show lpRs n i b (b i s) = lpRs n i b' (b' i s)
    rw [h i s (Nat.le_refl _) (by omega)]
    unfold lpRs
    split
    · exact ih (i + 1) _ (fun d t h1 h2 => h d t (by omega) (by omega))
    · rfl
theorem lpD_congr {σ : Type} {b b' : Nat → σ → σ} (n : Nat) : ∀ s : σ, (∀ d t, 1 ≤ d → d ≤ n → b d t = b' d t) → lpD n b s = lpD n b' s := by
  induction n with
  | zero => exact fun s _ => rfl
  | succ n ih =>
    intro s h
    show lpD n b (b (n + 1) s) = lpD n b' (b' (n + 1) s)
    rw [h (n + 1) s (by omega) (Nat.le_refl _)]
    exact ih _ (fun d t h1 h2 => h d t h1 (by omega))
theorem darkFrom_eq {v w : SV} {B d : Nat} (G : Gd B (w 0)) (R : RelS v (w 0)) (hd : d < 24) : fX2_leastDarkSetting v (nI d) = fX6_leastDark w d := by
  have e1 : fX2_leastDarkSetting v (nI d) = Sum.elim (fun _ => (-1 : Int32)) id (lpR 251 50 (fun s (_ : Unit) => if dkB (w 0) d s then (Sum.inr (nI s) : Unit ⊕ Int32) else Sum.inl ()) ()) := by
    unfold fX2_leastDarkSetting
    rw [show (301 - 50 : Nat) = 251 from rfl, lpR_congr (b' := fun s (_ : Unit) => if dkB (w 0) d s then (Sum.inr (nI s) : Unit ⊕ Int32) else Sum.inl ()) 251 50 () (fun s t h1 h2 => by
      unfold bX2_leastDarkSetting_16
      rw [dkB_2 G R hd h1 (by omega)]
      by_cases z : dkB (w 0) d s = true
      · rw [if_pos z, if_neg (by decide), if_pos z]
      · rw [if_neg z, if_pos rfl, if_neg z])]
    rfl
  have e2 : fX6_leastDark w d = lpD 251 (fun s q => if dkB (w 0) d (s + 49) then nI (s + 49) else q) (-1) := by
    unfold fX6_leastDark tX6_leastDark_6
    dsimp only
    refine lpD_congr 251 (-1) (fun s t h1 h2 => ?_)
    unfold bX6_leastDark_6
    dsimp only
    rw [dkB_6 G hd (by omega) (by omega)]
    by_cases z : dkB (w 0) d (s + 49) = true
    · rw [if_pos z, if_neg (by decide), if_pos z]
    · rw [if_neg z, if_pos rfl, if_neg z]
  rw [e1, e2]
  exact (lpD_R (dkB (w 0) d) 251 (-1)).symm
