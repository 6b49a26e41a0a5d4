/-! what a line brings, in numbers: heats, dark dots, time, waits, the hottest -/
abbrev SP : Type := (Nat → Nat) × (Nat → Bool) × Nat × Nat × Nat
def wtN (c bd : Nat) (p : Nat → Nat) (m : Nat → Bool) (h : Nat → Nat) : Nat := mxN 24 m (fun d => wN c (bd - p d) (h d))
def h1N (c bd : Nat) (p : Nat → Nat) (m : Nat → Bool) (h : Nat → Nat) : Nat → Nat := fun d => coolN c (wtN c bd p m h) (h d)
def stp (c bd dk : Nat) (p : Nat → Nat) (m : Nat → Bool) (s : SP) : SP :=
  (fun d => coolN c (mxN 24 m p / 10 + 1) (h2N m (h1N c bd p m s.1) p d), fun d => s.2.1 d || (m d && decide (dk ≤ h2N m (h1N c bd p m s.1) p d)), s.2.2.1 + (wtN c bd p m s.1 + (mxN 24 m p / 10 + 1)), s.2.2.2.1 + wtN c bd p m s.1, max s.2.2.2.2 (mxN 24 m (h2N m (h1N c bd p m s.1) p)))
def mbr (r : Nat → Int32) (X k : Nat) : Nat → Bool := memb (aN r 79) (ptN r X) (aoN r) X k
def spN (r : Nat → Int32) (X : Nat) : Nat → SP
  | 0 => (fun d => if d < 24 then aN r d else 0, fun _ => false, 0, 0, 0)
  | k + 1 => stp (aN r 75) (aN r 76) (dkN (aN r 81)) (pN r X) (mbr r X k) (spN r X k)
theorem spN_s (r : Nat → Int32) (X k : Nat) : spN r X (k + 1) = stp (aN r 75) (aN r 76) (dkN (aN r 81)) (pN r X) (mbr r X k) (spN r X k) := rfl
theorem wtN_le {c bd : Nat} {p : Nat → Nat} {m : Nat → Bool} {h : Nat → Nat} (hh : ∀ d, h d ≤ 900) : wtN c bd p m h ≤ 900 := mxN_le 24 (fun d _ _ => Nat.le_trans (wN_le _ _ _) (hh d))
theorem h1N_le {c bd : Nat} {p : Nat → Nat} {m : Nat → Bool} {h : Nat → Nat} (hh : ∀ d, h d ≤ 900) (d : Nat) : h1N c bd p m h d ≤ 900 := Nat.le_trans (coolN_le _ _ _) (hh d)
theorem h2N_le {c bd : Nat} {p : Nat → Nat} {m : Nat → Bool} {h : Nat → Nat} (hh : ∀ d, h d ≤ 900) (hp : ∀ d, p d ≤ 325) (hb : 330 ≤ bd) (hb2 : bd ≤ 900) (hm : ∀ d, m d = true → d < 24) (d : Nat) : h2N m (h1N c bd p m h) p d ≤ 900 := by
  by_cases q : m d = true
  · rw [h2N_t q]
    have h1 : coolN c (wtN c bd p m h) (h d) ≤ bd - p d := wN_c.mpr (mxN_ge (f := fun d => wN c (bd - p d) (h d)) 24 (hm d q) q)
    have h2 := hp d
    show coolN c (wtN c bd p m h) (h d) + p d ≤ 900
    omega
  · rw [h2N_f q]
    exact h1N_le hh d
/-- heats and the hottest are at most 900 -/
theorem mbr_24 {r : Nat → Int32} {X k : Nat} (hX : X < 2 ^ 24) (d : Nat) (h : mbr r X k d = true) : d < 24 := by
  refine Nat.not_le.mp (fun hd => ?_)
  unfold mbr memb at h
  rw [Nat.testBit_lt_two_pow (Nat.lt_of_lt_of_le hX (Nat.pow_le_pow_right (by omega) hd))] at h
  exact absurd h (by simp)
theorem sp_le {r : Nat → Int32} (hI : SI r) (h0 : ∀ d, d < 24 → aN r d ≤ 900) {X : Nat} (hX : X < 2 ^ 24) (k : Nat) : (∀ d, (spN r X k).1 d ≤ 900) ∧ (spN r X k).2.2.2.2 ≤ 900 := by
  obtain ⟨-, -, ⟨-, b1, b2⟩, -⟩ := SI_n hI
  induction k with
  | zero =>
    refine ⟨fun d => ?_, Nat.zero_le _⟩
    show (if d < 24 then aN r d else 0) ≤ 900
    split
    · rename_i q
      exact h0 d q
    · omega
  | succ k ih =>
    have h2 := h2N_le (c := aN r 75) (p := pN r X) ih.1 (fun d => (pN_spec hI X d).2.2) b1 b2 (mbr_24 (r := r) (k := k) hX)
    rw [spN_s]
    exact ⟨fun d => Nat.le_trans (coolN_le _ _ _) (h2 d), Nat.max_le.mpr ⟨ih.2, mxN_le 24 (fun d _ _ => h2 d)⟩⟩
theorem sp_dark {r : Nat → Int32} {X : Nat} (k d : Nat) (h : (spN r X k).2.1 d = true) : X.testBit d = true ∧ prt (aN r 79) (ptN r X) (aoN r) X d < k := by
  induction k with
  | zero => cases h
  | succ k ih =>
    rw [spN_s] at h
    have h : ((spN r X k).2.1 d || (mbr r X k d && decide (dkN (aN r 81) ≤ h2N (mbr r X k) (h1N (aN r 75) (aN r 76) (pN r X) (mbr r X k) (spN r X k).1) (pN r X) d))) = true := h
    rcases Bool.or_eq_true_iff.mp h with q | q
    · obtain ⟨a1, a2⟩ := ih q
      exact ⟨a1, by omega⟩
    · have q1 := (Bool.and_eq_true_iff.mp q).1
      unfold mbr memb at q1
      obtain ⟨q2, q3⟩ := Bool.and_eq_true_iff.mp q1
      exact ⟨q2, by have := of_decide_eq_true q3; omega⟩
/-! the class: the parts of a line -/
def CR (v0 : SV) (r : Nat → Int32) (X hot k : Nat) (s : Int32 × SV) : Prop :=
  s.1 = nI (mkN 24 (spN r X k).2.1) ∧ (∀ d, d < 24 → s.2 0 d = nI ((spN r X k).1 d)) ∧ s.2 8 1 = v0 8 1 + nI (spN r X k).2.2.1 ∧ s.2 8 4 = v0 8 4 + nI (spN r X k).2.2.2.1 ∧ s.2 8 7 = nI (max hot (spN r X k).2.2.2.2) ∧ (∀ k, 1 ≤ k → k < 8 → s.2 k = v0 k) ∧ (∀ k, k < 11 → k ≠ 1 → k ≠ 4 → k ≠ 7 → s.2 8 k = v0 8 k)
theorem cr_step {v v0 : SV} {r : Nat → Int32} {X hot k : Nat} {y2 : Int32} (hI : SI r) (hh0 : ∀ d, d < 24 → aN r d ≤ 900) (hX : X < 2 ^ 24) (hhot : hot ≤ 900) (h1 : ∀ d, d < 24 → v0 1 d = nI (pN r X d)) (h2 : ∀ i, i < 7 → v0 2 i = r (74 + i)) (h81 : v0 8 10 = r 81) (hk : k < ptN r X) (s : Int32 × SV) (hs : CR v0 r X hot k s) :
    CR v0 r X hot (k + 1) (bX2_printLine_45 v (nI X) y2 (nI (aoN r)) (nI (ptN r X)) k s) := by
  obtain ⟨c1, c2, c3, c4, c5, c6, c7⟩ := hs
  obtain ⟨-, ⟨h75, b1, b2⟩, ⟨h76, b3, b4⟩, -, -, ⟨h79, b5⟩, -, h81', b6⟩ := SI_n hI
  obtain ⟨a1, a2⟩ := aoN_le hI
  have hp := ptN_le hI X
  obtain ⟨l1, l2⟩ := sp_le hI hh0 hX k
  have ps : ∀ d, 20 ≤ pN r X d ∧ pN r X d ≤ 325 := fun d => (pN_spec hI X d).2
  have e2 : s.2 2 = v0 2 := c6 2 (by omega) (by omega)
  have eM : fX2_dotsOfPart s.2 (nI X) (nI k) (nI (ptN r X)) (nI (aoN r)) = nI (mkN 24 (mbr r X k)) := dotsOfPart_2 hX hk hp a1 a2 (by rw [e2, h2 5 (by omega)]; exact h79) b5
  have e1 : s.2 1 = v0 1 := c6 1 (by omega) (by omega)
  have hs1 : s.2 2 1 = nI (aN r 75) := by rw [e2, h2 1 (by omega)]; exact h75
  have eW : fX2_waitOfPart s.2 (nI (mkN 24 (mbr r X k))) = nI (wtN (aN r 75) (aN r 76) (pN r X) (mbr r X k) (spN r X k).1) :=
    waitOfPart_2 (p := pN r X) (mbr r X k) hs1 (by omega) (by omega) (by rw [e2, h2 2 (by omega)]; exact h76) b4 (fun d _ => by have := ps d; omega) l1 c2 (fun d hd => by rw [e1]; exact h1 d hd)
  have lW : wtN (aN r 75) (aN r 76) (pN r X) (mbr r X k) (spN r X k).1 ≤ 900 := wtN_le l1
  unfold bX2_printLine_45
  dsimp only
  rw [eM, eW]
  have T1 := pu_time (v := s.2) (c := aN r 75) (t := wtN (aN r 75) (aN r 76) (pN r X) (mbr r X k) (spN r X k).1) (h := (spN r X k).1) (by omega) (by omega) (by omega) (fun d => by have := l1 d; omega) hs1 c2
  obtain ⟨r14, e14⟩ : ∃ z, z = fX2_passTime s.2 (nI (wtN (aN r 75) (aN r 76) (pN r X) (mbr r X k) (spN r X k).1)) := ⟨_, rfl⟩
  rw [← e14] at T1 ⊢
  obtain ⟨t1, t2, t3, t4⟩ := T1
  have H := heatPart_2 (v := mkS (r14 0) (r14 1) (r14 2) (r14 3) (r14 4) (r14 5) (r14 6) (r14 7) (r14 8 0) (r14 8 1) (r14 8 2) (r14 8 3) (r14 8 4 + nI (wtN (aN r 75) (aN r 76) (pN r X) (mbr r X k) (spN r X k).1)) (r14 8 5) (r14 8 6) (r14 8 7) (r14 8 8) (r14 8 9) (r14 8 10)) (pp := aN r 81) (hot := max hot (spN r X k).2.2.2.2) (h := h1N (aN r 75) (aN r 76) (pN r X) (mbr r X k) (spN r X k).1) (p := pN r X) (mbr r X k)
    (by show r14 8 10 = _; rw [t4 10 (by omega) (by omega), c7 10 (by omega) (by omega) (by omega) (by omega), h81]; exact h81') b6 (fun d _ => by have := ps d; omega) (fun d => h1N_le l1 d) (Nat.le_trans (Nat.max_le.mpr ⟨hhot, l2⟩) (by omega))
    (fun d hd => by show r14 0 d = _; rw [t1, if_pos hd]; rfl) (fun d hd => by show r14 1 d = _; rw [t2 1 (by omega) (by omega), e1]; exact h1 d hd) (by show r14 8 7 = _; rw [t4 7 (by omega) (by omega)]; exact c5)
  obtain ⟨r18, e18⟩ : ∃ z, z = fX2_heatPart (mkS (r14 0) (r14 1) (r14 2) (r14 3) (r14 4) (r14 5) (r14 6) (r14 7) (r14 8 0) (r14 8 1) (r14 8 2) (r14 8 3) (r14 8 4 + nI (wtN (aN r 75) (aN r 76) (pN r X) (mbr r X k) (spN r X k).1)) (r14 8 5) (r14 8 6) (r14 8 7) (r14 8 8) (r14 8 9) (r14 8 10)) (nI (mkN 24 (mbr r X k))) := ⟨_, rfl⟩
  rw [← e18] at H ⊢
  obtain ⟨g1, g2, g3, g4, g5⟩ := H
  have f1 : ∀ j, 1 ≤ j → j < 8 → r18.1 j = v0 j := fun j j1 j2 => (g4 j j1 j2).trans (al7 (P := fun j => mkS (r14 0) (r14 1) (r14 2) (r14 3) (r14 4) (r14 5) (r14 6) (r14 7) (r14 8 0) (r14 8 1) (r14 8 2) (r14 8 3) (r14 8 4 + nI (wtN (aN r 75) (aN r 76) (pN r X) (mbr r X k) (spN r X k).1)) (r14 8 5) (r14 8 6) (r14 8 7) (r14 8 8) (r14 8 9) (r14 8 10) j = v0 j) ((t2 1 (by omega) (by omega)).trans (c6 1 (by omega) (by omega))) ((t2 2 (by omega) (by omega)).trans (c6 2 (by omega) (by omega))) ((t2 3 (by omega) (by omega)).trans (c6 3 (by omega) (by omega))) ((t2 4 (by omega) (by omega)).trans (c6 4 (by omega) (by omega))) ((t2 5 (by omega) (by omega)).trans (c6 5 (by omega) (by omega))) ((t2 6 (by omega) (by omega)).trans (c6 6 (by omega) (by omega))) ((t2 7 (by omega) (by omega)).trans (c6 7 (by omega) (by omega))) j j1 j2)
  have eL : fX2_longestPulse r18.1 (nI (mkN 24 (mbr r X k))) = nI (mxN 24 (mbr r X k) (pN r X)) := longestPulse_2 (mbr r X k) (fun d _ => by have := ps d; omega) (fun d hd => by rw [f1 1 (by omega) (by omega)]; exact h1 d hd)
  have lL : mxN 24 (mbr r X k) (pN r X) ≤ 325 := mxN_le 24 (fun d _ _ => (ps d).2)
  have eQ : nI (mxN 24 (mbr r X k) (pN r X)) / 10 + 1 = nI (mxN 24 (mbr r X k) (pN r X) / 10 + 1) := by
    rw [show nI (mxN 24 (mbr r X k) (pN r X)) / 10 = nI (mxN 24 (mbr r X k) (pN r X) / 10) from pk_div (d := 10) (by omega) (by omega) (by omega), nI_1]
  rw [eL, eQ]
  have hl2 := h2N_le (c := aN r 75) (p := pN r X) l1 (fun d => (ps d).2) b3 b4 (mbr_24 (r := r) (k := k) hX)
  have T2 := pu_time (v := r18.1) (c := aN r 75) (t := mxN 24 (mbr r X k) (pN r X) / 10 + 1) (h := h2N (mbr r X k) (h1N (aN r 75) (aN r 76) (pN r X) (mbr r X k) (spN r X k).1) (pN r X)) (by omega) (by omega) (by omega) (fun d => by have := hl2 d; omega) (by rw [f1 2 (by omega) (by omega), h2 1 (by omega)]; exact h75) g2
  obtain ⟨r20, e20⟩ : ∃ z, z = fX2_passTime r18.1 (nI (mxN 24 (mbr r X k) (pN r X) / 10 + 1)) := ⟨_, rfl⟩
  rw [← e20] at T2 ⊢
  obtain ⟨u1, u2, u3, u4⟩ := T2
  refine ⟨?_, fun d hd => ?_, ?_, ?_, ?_, fun j j1 j2 => (u2 j j1 j2).trans (f1 j j1 j2), ?_⟩
  · show s.1 ||| r18.2 = _
    rw [c1, g1, nx_or, mkN_or]
    rfl
  · show r20 0 d = _
    rw [u1, if_pos hd]
    rfl
  · show r20 8 1 = _
    rw [u3, g5 1 (by omega) (by omega)]
    show r14 8 1 + _ = _
    rw [t3, c3, Int32.add_assoc, Int32.add_assoc, nI_add, nI_add]
    rfl
  · show r20 8 4 = _
    rw [u4 4 (by omega) (by omega), g5 4 (by omega) (by omega)]
    show r14 8 4 + _ = _
    rw [t4 4 (by omega) (by omega), c4, Int32.add_assoc, nI_add]
    rfl
  · show r20 8 7 = _
    rw [u4 7 (by omega) (by omega), g3, Nat.max_assoc]
    rfl
  · have sc : ∀ j, j < 11 → j ≠ 1 → j ≠ 4 → j ≠ 7 → mkS (r14 0) (r14 1) (r14 2) (r14 3) (r14 4) (r14 5) (r14 6) (r14 7) (r14 8 0) (r14 8 1) (r14 8 2) (r14 8 3) (r14 8 4 + nI (wtN (aN r 75) (aN r 76) (pN r X) (mbr r X k) (spN r X k).1)) (r14 8 5) (r14 8 6) (r14 8 7) (r14 8 8) (r14 8 9) (r14 8 10) 8 j = r14 8 j := al11 (fun _ _ _ => rfl) (fun q => absurd rfl q) (fun _ _ _ => rfl) (fun _ _ _ => rfl) (fun _ q => absurd rfl q) (fun _ _ _ => rfl) (fun _ _ _ => rfl) (fun _ _ q => absurd rfl q) (fun _ _ _ => rfl) (fun _ _ _ => rfl) (fun _ _ _ => rfl)
    intro j j1 j2 j3 j4
    show r20 8 j = _
    rw [u4 j j1 j2, g5 j j1 j4, sc j j1 j2 j3 j4, t4 j j1 j2]
    exact c7 j j1 j2 j3 j4
