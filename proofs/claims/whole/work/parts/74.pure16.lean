/-! the class prints a line -/
theorem smF_bits (X : Nat) (f : Nat → Int32) (p : Nat → Bool) : smF 24 (fun d => f d + nI (p d).toNat) = smF 24 f + fJ6_bitCount_0f7a4 (nI (mkN 24 p)) := by
  rw [smF_add, bitCount_mk]
theorem PL2_end {v v0 : SV} {r : Nat → Int32} {X B : Nat} {x2 y3 : Int32} (G : Gd B r) (R : RelS v0 r) (hX : X < 2 ^ 24) {s : Int32 × SV} (hs : CR v0 r X (aN r 86) (ptN r X) s) {u : SV × Int32} (hu : u = tX2_printLine_45 v (nI X) x2 y3 (nI (ptN r X)) s) :
    RelS u.1 (nxt r X) ∧ u.1 8 1 = v0 8 1 + nI (lnT r X) ∧ u.2 = u.1 8 1 - x2 := by
  obtain ⟨g1, g2, g3, g4, g5, g6⟩ := G
  obtain ⟨c1, c2, c3, c4, c5, c6, c7⟩ := hs
  obtain ⟨R1, ⟨R2, R3⟩, R4, R5, R6, ⟨R7, R8, R9, R10, R11, R12, R13⟩, R14, R15, R16⟩ := R
  obtain ⟨-, ⟨h75, b1, b2⟩, -, -, -, -, ⟨h80, b3⟩, -⟩ := SI_n g1
  obtain ⟨l1, l2⟩ := sp_le g1 (fun d hd => (g2 d hd).2) hX (ptN r X)
  have e2 : s.2 2 = v0 2 := c6 2 (by omega) (by omega)
  have eF : fX5_at 7 (s.2 2) 6 = nI (aN r 80) := (at7 (s.2 2) 6 (by omega)).trans (by rw [e2, R6 6 (by omega)]; exact h80)
  rw [hu]
  unfold tX2_printLine_45
  dsimp only
  rw [eF]
  have T := pu_time (v := s.2) (c := aN r 75) (t := aN r 80) (h := (spN r X (ptN r X)).1) (by omega) (by omega) (by omega) (fun d => by have := l1 d; omega) (by rw [e2, R6 1 (by omega)]; exact h75) c2
  obtain ⟨z, ez⟩ : ∃ z, z = fX2_passTime s.2 (nI (aN r 80)) := ⟨_, rfl⟩
  rw [← ez] at T ⊢
  obtain ⟨t1, t2, t3, t4⟩ := T
  have eb : fJ6_bitCount_0f7a4 (nI X) = smF 24 (fun d => nI (X.testBit d).toNat) := by
    have h := bitCount_mk (fun d => X.testBit d)
    rw [mkN_id hX] at h
    exact h
  have eA : nI X &&& (s.1 ^^^ (-1)) = nI (mkN 24 (fun d => X.testBit d && !(spN r X (ptN r X)).2.1 d)) := by rw [c1, andn_mkN hX]
  rw [eA]
  have s0 : z 8 0 = nI (aN r 87) := by rw [t4 0 (by omega) (by omega), c7 0 (by omega) (by omega) (by omega) (by omega), R13]; exact g4.1
  have w10 : (if nI (aN r 87) + 1 < 12 then nI (aN r 87) + 1 else 12) = nI (min 12 (aN r 87 + 1)) := by
    have := g4.2
    rw [nI_1]
    by_cases q : aN r 87 + 1 < 12
    · rw [if_pos (show nI (aN r 87 + 1) < 12 from nI_lt (b := 12) q (by omega)), Nat.min_eq_right (by omega)]
    · rw [if_neg (show ¬ nI (aN r 87 + 1) < 12 from nI_nlt (b := 12) (by omega) (by omega)), Nat.min_eq_left (by omega)]
      rfl
  obtain ⟨pd0, pd⟩ := pushFront_v (z 3) s.1
  obtain ⟨pf0, pf⟩ := pushFront_v (z 4) (nI (mkN 24 (fun d => X.testBit d && !(spN r X (ptN r X)).2.1 d)))
  obtain ⟨pp0, pp⟩ := pushFront_v (z 5) (nI (ptN r X))
  have tm : z 8 1 = v0 8 1 + nI (lnT r X) := by
    rw [t3, c3, Int32.add_assoc, nI_add]
    rfl
  refine ⟨⟨fun d hd => ?_, ⟨rfl, ?_⟩, fun d hd => ?_, fun d hd => ?_, fun i hi => ?_, ⟨?_, ?_, ?_, ?_, ?_, ?_, ?_⟩, fun j j1 j2 => ?_, ?_, ?_⟩, tm, rfl⟩
  · show z 0 d = _
    rw [t1, if_pos hd, nx_h hd]
    rfl
  · show z 8 8 = _
    rw [t4 8 (by omega) (by omega), c7 8 (by omega) (by omega) (by omega) (by omega), R2, nx_25]
  · show fX4_addDots (z 6) (nI X) d = _
    rw [addDots_v _ _ hd, t2 6 (by omega) (by omega), c6 6 (by omega) (by omega), R4 d hd, bitOf_nI (by omega) hd, nx_p hd]
  · show fX4_addDots (z 7) (nI (mkN 24 (fun d => X.testBit d && !(spN r X (ptN r X)).2.1 d))) d = _
    rw [addDots_v _ _ hd, t2 7 (by omega) (by omega), c6 7 (by omega) (by omega), R5 d hd, bit_mkN _ hd, nx_f hd]
    rfl
  · show z 2 i = _
    rw [t2 2 (by omega) (by omega), e2, R6 i hi, nx_s (by omega) (by omega)]
  · show z 8 10 = _
    rw [t4 10 (by omega) (by omega), c7 10 (by omega) (by omega) (by omega) (by omega), R7, nx_s (by omega) (by omega)]
  · show z 8 1 = _
    rw [tm, R8, nx_82]
  · show z 8 2 + 1 = _
    rw [t4 2 (by omega) (by omega), c7 2 (by omega) (by omega) (by omega) (by omega), R9, nx_83]
  · show z 8 3 + _ = _
    rw [t4 3 (by omega) (by omega), c7 3 (by omega) (by omega) (by omega) (by omega), R10, nx_84]
  · show z 8 4 = _
    rw [t4 4 (by omega) (by omega), c4, R11, nx_85]
    rfl
  · show z 8 7 = _
    rw [t4 7 (by omega) (by omega), c5, nx_86]
    rfl
  · show (if z 8 0 + 1 < 12 then z 8 0 + 1 else 12) = _
    rw [s0, w10, nx_87]
  · rw [nx_87, nI_clamp (by omega)] at j1
    by_cases q : j = 0
    · subst q
      refine ⟨?_, ?_, ?_⟩
      · show fX3_pushFront (z 3) s.1 0 = _
        rw [pd0, c1]
        exact nx_88.symm
      · show fX3_pushFront (z 4) (nI (mkN 24 (fun d => X.testBit d && !(spN r X (ptN r X)).2.1 d))) 0 = _
        rw [pf0]
        exact nx_89.symm
      · show fX3_pushFront (z 5) (nI (ptN r X)) 0 = _
        rw [pp0]
        exact nx_90.symm
    · have g := R14 (j - 1) (by show j - 1 < aN r 87; omega) (by omega)
      refine ⟨?_, ?_, ?_⟩
      · show fX3_pushFront (z 3) s.1 j = _
        rw [pd j (by omega) j2, t2 3 (by omega) (by omega), c6 3 (by omega) (by omega), g.1, nx_l (by omega), show 88 + 3 * j - 3 = 88 + 3 * (j - 1) by omega]
      · show fX3_pushFront (z 4) (nI (mkN 24 (fun d => X.testBit d && !(spN r X (ptN r X)).2.1 d))) j = _
        rw [pf j (by omega) j2, t2 4 (by omega) (by omega), c6 4 (by omega) (by omega), g.2.1, nx_l (by omega), show 89 + 3 * j - 3 = 89 + 3 * (j - 1) by omega]
      · show fX3_pushFront (z 5) (nI (ptN r X)) j = _
        rw [pp j (by omega) j2, t2 5 (by omega) (by omega), c6 5 (by omega) (by omega), g.2.2, nx_l (by omega), show 90 + 3 * j - 3 = 90 + 3 * (j - 1) by omega]
  · show z 8 5 + fJ6_bitCount_0f7a4 (nI X) = _
    rw [t4 5 (by omega) (by omega), c7 5 (by omega) (by omega) (by omega) (by omega), R15, eb, ← smF_add]
    exact smF_congr 24 (fun d hd => by rw [nx_p hd])
  · show z 8 6 + fJ6_bitCount_0f7a4 (nI (mkN 24 (fun d => X.testBit d && !(spN r X (ptN r X)).2.1 d))) = _
    rw [t4 6 (by omega) (by omega), c7 6 (by omega) (by omega) (by omega) (by omega), R16, ← smF_bits X]
    exact smF_congr 24 (fun d hd => by rw [nx_f hd]; rfl)
theorem RelS_pp {v v0 : SV} {r : Nat → Int32} (R : RelS v r) (h0 : v0 0 = v 0) (h1 : ∀ k, 2 ≤ k → k < 8 → v0 k = v k) (h2 : ∀ k, k < 11 → v0 8 k = v 8 k) : RelS v0 r := by
  unfold RelS at R ⊢
  rw [h0, h1 2 (by omega) (by omega), h1 3 (by omega) (by omega), h1 4 (by omega) (by omega), h1 5 (by omega) (by omega), h1 6 (by omega) (by omega), h1 7 (by omega) (by omega), h2 0 (by omega), h2 1 (by omega), h2 2 (by omega), h2 3 (by omega), h2 4 (by omega), h2 5 (by omega), h2 6 (by omega), h2 7 (by omega), h2 8 (by omega), h2 9 (by omega), h2 10 (by omega)]
  exact R
theorem PL2 {v : SV} {r : Nat → Int32} {X B : Nat} (G : Gd B r) (R : RelS v r) (hX : X < 2 ^ 24) {u : SV × Int32} (hu : u = fX2_printLine v (nI X)) : RelS u.1 (nxt r X) ∧ u.2 = nI (lnT r X) := by
  have g1 := G.1
  obtain ⟨a1, a2⟩ := aoN_le g1
  have hp := ptN_le g1 X
  have R' := R
  obtain ⟨R1, ⟨R2, R3⟩, R4, R5, R6, ⟨R7, R8, R9, R10, R11, R12, R13⟩, R14, R15, R16⟩ := R'
  obtain ⟨q1, q2, q3, q4⟩ := preparePulses_2 (v := v) (X := X) g1 R7 R2 R3 (R6 0 (by omega))
  obtain ⟨v0, ev⟩ : ∃ z, z = fX2_preparePulses v (nI X) := ⟨_, rfl⟩
  rw [← ev] at q1 q2 q3 q4
  have R0 : RelS v0 r := RelS_pp R q2 q3 q4
  have e1 : fX2_printLine v (nI X) = tX2_printLine_45 v (nI X) (v 8 1) (nI (aoN r)) (nI (ptN r X)) (lpF (ptN r X) 0 (bX2_printLine_45 v (nI X) (v 8 1) (nI (aoN r)) (nI (ptN r X))) (0, v0)) := by
    unfold fX2_printLine
    rw [dotsAtOnce_2 g1 (R6 3 (by omega)) (R6 4 (by omega)), bitCount_n hX, parts_i g1 X, if_pos (show (1 : Int32) ≤ nI (aoN r) from nI_le (a := 1) a1 (by omega))]
    unfold tX2_printLine_J32
    dsimp only
    rw [nI_clamp (by omega), ev]
  have key := lpF_0 (fun k s => k ≤ ptN r X → CR v0 r X (aN r 86) k s) (b := bX2_printLine_45 v (nI X) (v 8 1) (nI (aoN r)) (nI (ptN r X))) (ptN r X) (0, v0) (fun k s hk hs _ => cr_step g1 (fun d hd => (G.2.1 d hd).2) hX G.2.2.1.2 q1 (fun i hi => R0.2.2.2.2.1 i hi) R0.2.2.2.2.2.1.1 hk s (hs (by omega))) (fun _ => by
    refine ⟨?_, fun d hd => ?_, ?_, ?_, ?_, fun _ _ _ => rfl, fun _ _ _ _ _ => rfl⟩
    · show 0 = nI (mkN 24 (fun _ => false))
      rw [mkN_F, nI_0]
    · show v0 0 d = nI (if d < 24 then aN r d else 0)
      rw [R0.1 d hd, if_pos hd]
      exact (G.2.1 d hd).1
    · show v0 8 1 = v0 8 1 + nI 0
      rw [nI_0, Int32.add_zero]
    · show v0 8 4 = v0 8 4 + nI 0
      rw [nI_0, Int32.add_zero]
    · show v0 8 7 = nI (max (aN r 86) 0)
      rw [Nat.max_zero, R0.2.2.2.2.2.1.2.2.2.2.2.1]
      exact G.2.2.1.1) (Nat.le_refl _)
  obtain ⟨k1, k2, k3⟩ := PL2_end (v := v) (x2 := v 8 1) (y3 := nI (aoN r)) G R0 hX key rfl
  rw [hu, e1]
  refine ⟨k1, k3.trans ?_⟩
  rw [k2, q4 1 (by omega), Int32.add_comm, Int32.add_sub_cancel]
