/-! from 73.pure15.lean.txt -/
def spE (r : Nat → Int32) (X : Nat) : SP := spN r X (ptN r X)
def lnT (r : Nat → Int32) (X : Nat) : Nat := (spE r X).2.2.1 + aN r 80
def nxt (r : Nat → Int32) (X : Nat) : Nat → Int32 := fun k =>
  if k < 24 then nI (coolN (aN r 75) (aN r 80) ((spE r X).1 k)) else if k = 24 then nI X else if k = 25 then r 24 else if k < 50 then r k + nI (X.testBit (k - 26)).toNat
  else if k < 74 then r k + nI (X.testBit (k - 50) && !(spE r X).2.1 (k - 50)).toNat else if k < 82 then r k else if k = 82 then r 82 + nI (lnT r X) else if k = 83 then r 83 + 1 else if k = 84 then r 84 + nI (ptN r X)
  else if k = 85 then r 85 + nI (spE r X).2.2.2.1 else if k = 86 then nI (max (aN r 86) (spE r X).2.2.2.2) else if k = 87 then nI (min 12 (aN r 87 + 1)) else if k = 88 then nI (mkN 24 (spE r X).2.1)
  else if k = 89 then nI (mkN 24 (fun d => X.testBit d && !(spE r X).2.1 d)) else if k = 90 then nI (ptN r X) else r (k - 3)
section NX
variable {r : Nat → Int32} {X : Nat}
theorem nx_h {d : Nat} (hd : d < 24) : nxt r X d = nI (coolN (aN r 75) (aN r 80) ((spE r X).1 d)) := if_pos hd
theorem nx_25 : nxt r X 25 = r 24 := rfl
theorem nx_p {d : Nat} (hd : d < 24) : nxt r X (26 + d) = r (26 + d) + nI (X.testBit d).toNat := by
  unfold nxt
  rw [if_neg (by omega), if_neg (by omega), if_neg (by omega), if_pos (by omega), show 26 + d - 26 = d by omega]
theorem nx_f {d : Nat} (hd : d < 24) : nxt r X (50 + d) = r (50 + d) + nI (X.testBit d && !(spE r X).2.1 d).toNat := by
  unfold nxt
  rw [if_neg (by omega), if_neg (by omega), if_neg (by omega), if_neg (by omega), if_pos (by omega), show 50 + d - 50 = d by omega]
theorem nx_s {k : Nat} (h1 : 74 ≤ k) (h2 : k < 82) : nxt r X k = r k := by
  unfold nxt
  rw [if_neg (by omega), if_neg (by omega), if_neg (by omega), if_neg (by omega), if_neg (by omega), if_pos h2]
theorem nx_82 : nxt r X 82 = r 82 + nI (lnT r X) := rfl
theorem nx_83 : nxt r X 83 = r 83 + 1 := rfl
theorem nx_84 : nxt r X 84 = r 84 + nI (ptN r X) := rfl
theorem nx_85 : nxt r X 85 = r 85 + nI (spE r X).2.2.2.1 := rfl
theorem nx_86 : nxt r X 86 = nI (max (aN r 86) (spE r X).2.2.2.2) := rfl
theorem nx_87 : nxt r X 87 = nI (min 12 (aN r 87 + 1)) := rfl
theorem nx_88 : nxt r X 88 = nI (mkN 24 (spE r X).2.1) := rfl
theorem nx_89 : nxt r X 89 = nI (mkN 24 (fun d => X.testBit d && !(spE r X).2.1 d)) := rfl
theorem nx_90 : nxt r X 90 = nI (ptN r X) := rfl
theorem nx_l {k : Nat} (h : 91 ≤ k) : nxt r X k = r (k - 3) := by
  unfold nxt
  rw [if_neg (by omega), if_neg (by omega), if_neg (by omega), if_neg (by omega), if_neg (by omega), if_neg (by omega), if_neg (by omega), if_neg (by omega), if_neg (by omega), if_neg (by omega), if_neg (by omega), if_neg (by omega), if_neg (by omega), if_neg (by omega), if_neg (by omega)]
end NX
/-- what a row of the reference always is; B: how often a dot has printed at most -/
def Gd (B : Nat) (r : Nat → Int32) : Prop :=
  SI r ∧ (∀ d, d < 24 → r d = nI (aN r d) ∧ aN r d ≤ 900) ∧ (r 86 = nI (aN r 86) ∧ aN r 86 ≤ 900) ∧ (r 87 = nI (aN r 87) ∧ aN r 87 ≤ 12) ∧ (∀ j, j < 12 → r (90 + 3 * j) = nI (aN r (90 + 3 * j)) ∧ aN r (90 + 3 * j) ≤ 24) ∧ (∀ d, d < 24 → r (26 + d) = nI (aN r (26 + d)) ∧ r (50 + d) = nI (aN r (50 + d)) ∧ aN r (50 + d) ≤ aN r (26 + d) ∧ aN r (26 + d) ≤ B)
theorem aN_v {r : Nat → Int32} {k n b : Nat} (h : r k = nI n) (hn : n ≤ b) (hb : b < 2 ^ 31) : r k = nI (aN r k) ∧ aN r k ≤ b := by
  rw [aN_i h (by omega)]
  exact ⟨h, hn⟩
theorem Gd_nxt {B : Nat} {r : Nat → Int32} {X : Nat} (G : Gd B r) (hX : X < 2 ^ 24) (hB : B + 1 < 2 ^ 30) : Gd (B + 1) (nxt r X) := by
  obtain ⟨g1, g2, g3, g4, g5, g6⟩ := G
  obtain ⟨l1, l2⟩ := sp_le g1 (fun d hd => (g2 d hd).2) hX (ptN r X)
  have hp := ptN_le g1 X
  refine ⟨SI_congr (fun k k1 k2 => nx_s k1 (by omega)) g1, fun d hd => aN_v (nx_h hd) (Nat.le_trans (coolN_le _ _ _) (l1 d)) (by omega), aN_v nx_86 (Nat.max_le.mpr ⟨g3.2, l2⟩) (by omega), aN_v nx_87 (Nat.min_le_left _ _) (by omega), fun j hj => ?_, fun d hd => ?_⟩
  · by_cases q : j = 0
    · subst q
      exact aN_v nx_90 hp (by omega)
    · have e : nxt r X (90 + 3 * j) = r (90 + 3 * (j - 1)) := by
        rw [nx_l (by omega), show 90 + 3 * j - 3 = 90 + 3 * (j - 1) by omega]
      rw [show aN (nxt r X) (90 + 3 * j) = aN r (90 + 3 * (j - 1)) from congrArg Int32.toNatClampNeg e, e]
      exact g5 (j - 1) (by omega)
  · obtain ⟨a1, a2, a3, a4⟩ := g6 d hd
    have e1 : nxt r X (26 + d) = nI (aN r (26 + d) + (X.testBit d).toNat) := by rw [nx_p hd, a1, nI_add]
    have e2 : nxt r X (50 + d) = nI (aN r (50 + d) + (X.testBit d && !(spE r X).2.1 d).toNat) := by rw [nx_f hd, a2, nI_add]
    have h1 := Bool.toNat_le (X.testBit d)
    have h2 : (X.testBit d && !(spE r X).2.1 d).toNat ≤ (X.testBit d).toNat := by
      cases X.testBit d <;> cases (spE r X).2.1 d <;> decide
    rw [aN_i e1 (by omega), aN_i e2 (by omega)]
    exact ⟨e1, e2, by omega, by omega⟩
theorem lpD_0 {σ : Type} (P : Nat → σ → Prop) {b : Nat → σ → σ} (n : Nat) : ∀ s : σ, (∀ d t, d < n → P (d + 1) t → P d (b (d + 1) t)) → P n s → P 0 (lpD n b s) := by
  induction n with
  | zero => exact fun s _ h => h
  | succ n ih => exact fun s hs h => ih (b (n + 1) s) (fun d t hd => hs d t (by omega)) (hs n s (by omega) h)
theorem pushFront_v (f : Nat → Int32) (x : Int32) : fX3_pushFront f x 0 = x ∧ ∀ j, 1 ≤ j → j < 12 → fX3_pushFront f x j = f (j - 1) := by
  have key := lpD_0 (fun n (s : Nat → Int32) => (∀ j, n < j → j < 12 → s j = f (j - 1)) ∧ ∀ j, j ≤ n → s j = f j) (b := bX3_pushFront_5 f x) 11 f (fun d t hd h => by
    obtain ⟨h1, h2⟩ := h
    refine ⟨fun j j1 j2 => ?_, fun j j1 => ?_⟩
    · show upd t (d + 1) (t (d + 1 - 1)) j = _
      by_cases q : j = d + 1
      · rw [q, pk_us, h2 _ (by omega)]
      · rw [pk_un q, h1 j (by omega) j2]
    · show upd t (d + 1) (t (d + 1 - 1)) j = _
      rw [pk_un (by omega), h2 j (by omega)]) ⟨fun j j1 j2 => absurd j1 (by omega), fun j _ => rfl⟩
  obtain ⟨k1, -⟩ := key
  have e : fX3_pushFront f x = upd (lpD 11 (bX3_pushFront_5 f x) f) 0 x := by
    unfold fX3_pushFront tX3_pushFront_5
    dsimp only
    unfold fX5_put
    rw [if_neg (by decide), if_neg (by decide)]
    rfl
  rw [e]
  exact ⟨pk_us, fun j j1 j2 => (pk_un (by omega)).trans (k1 j (by omega) j2)⟩
theorem addDots_v (f : Nat → Int32) (x : Int32) {d : Nat} (hd : d < 24) : fX4_addDots f x d = f d + fX5_bitOf x (nI d) := by
  have key := lpF_0 (fun n (s : Nat → Int32) => (∀ j, j < n → s j = f j + fX5_bitOf x (nI j)) ∧ ∀ j, n ≤ j → s j = f j) (b := bX4_addDots_2 f x) 24 f (fun d t hd h => by
    obtain ⟨h1, h2⟩ := h
    refine ⟨fun j j1 => ?_, fun j j1 => ?_⟩
    · show upd t d (t d + fX5_bitOf x (nI d)) j = _
      by_cases q : j = d
      · rw [q, pk_us, h2 d (Nat.le_refl _)]
      · rw [pk_un q, h1 j (by omega)]
    · show upd t d (t d + fX5_bitOf x (nI d)) j = _
      rw [pk_un (by omega), h2 j (by omega)]) ⟨fun j h => absurd h (Nat.not_lt_zero j), fun _ _ => rfl⟩
  exact key.1 d hd
/-! from 74.pure16.lean.txt -/
theorem smF_bits (X : Nat) (f : Nat → Int32) (p : Nat → Bool) : smF 24 (fun d => f d + nI (p d).toNat) = smF 24 f + fJ6_bitCount_0f7a4 (nI (mkN 24 p)) := by
  rw [smF_add, bitCount_mk]
theorem PL2_end {v v0 : SV} {r : Nat → Int32} {X B : Nat} {x2 y3 : Int32} (G : Gd B r) (R : RelS v0 r) (hX : X < 2 ^ 24) {s : Int32 × SV} (hs : CR v0 r X (aN r 86) (ptN r X) s) {u : SV × Int32} (hu : u = tX2_printLine_45 v (nI X) x2 y3 (nI (ptN r X)) s) :
    RelS u.1 (nxt r X) ∧ u.1 8 1 = v0 8 1 + nI (lnT r X) ∧ u.2 = u.1 8 1 - x2 := by
  obtain ⟨g1, g2, g3, g4, g5, g6⟩ := G
  obtain ⟨c1, c2, c3, c4, c5, c6, c7⟩ := hs
  obtain ⟨R1, ⟨R2, R3⟩, R4, R5, R6, ⟨R7, R8, R9, R10, R11, R12, R13⟩, R14, R15, R16⟩ := R
  obtain ⟨-, ⟨h75, b1, b2⟩, -, -, -, -, ⟨h80, b3⟩, -⟩ := SI_n g1
  obtain ⟨l1, l2⟩ := sp_le g1 (fun d hd => (g2 d hd).2) hX (ptN r X)
  have e2 : s.2 2 = v0 2 := c6 2 (by omega) (by omega)
  have eF : fX5_at 7 (s.2 2) 6 = nI (aN r 80) := (at7 (s.2 2) 6 (by omega)).trans (by rw [e2, R6 6 (by omega)]; exact h80)
  rw [hu]
  unfold tX2_printLine_45
  dsimp only
  rw [eF]
  have T := pu_time (v := s.2) (c := aN r 75) (t := aN r 80) (h := (spN r X (ptN r X)).1) (by omega) (by omega) (by omega) (fun d => by have := l1 d; omega) (by rw [e2, R6 1 (by omega)]; exact h75) c2
  obtain ⟨z, ez⟩ : ∃ z, z = fX2_passTime s.2 (nI (aN r 80)) := ⟨_, rfl⟩
  rw [← ez] at T ⊢
  obtain ⟨t1, t2, t3, t4⟩ := T
  have eb : fJ6_bitCount_0f7a4 (nI X) = smF 24 (fun d => nI (X.testBit d).toNat) := by
    have h := bitCount_mk (fun d => X.testBit d)
    rw [mkN_id hX] at h
    exact h
  have eA : nI X &&& (s.1 ^^^ (-1)) = nI (mkN 24 (fun d => X.testBit d && !(spN r X (ptN r X)).2.1 d)) := by rw [c1, andn_mkN hX]
  rw [eA]
  have s0 : z 8 0 = nI (aN r 87) := by rw [t4 0 (by omega) (by omega), c7 0 (by omega) (by omega) (by omega) (by omega), R13]; exact g4.1
  have w10 : (if nI (aN r 87) + 1 < 12 then nI (aN r 87) + 1 else 12) = nI (min 12 (aN r 87 + 1)) := by
    have := g4.2
    rw [nI_1]
    by_cases q : aN r 87 + 1 < 12
    · rw [if_pos (show nI (aN r 87 + 1) < 12 from nI_lt (b := 12) q (by omega)), Nat.min_eq_right (by omega)]
    · rw [if_neg (show ¬ nI (aN r 87 + 1) < 12 from nI_nlt (b := 12) (by omega) (by omega)), Nat.min_eq_left (by omega)]
      rfl
  obtain ⟨pd0, pd⟩ := pushFront_v (z 3) s.1
  obtain ⟨pf0, pf⟩ := pushFront_v (z 4) (nI (mkN 24 (fun d => X.testBit d && !(spN r X (ptN r X)).2.1 d)))
  obtain ⟨pp0, pp⟩ := pushFront_v (z 5) (nI (ptN r X))
  have tm : z 8 1 = v0 8 1 + nI (lnT r X) := by
    rw [t3, c3, Int32.add_assoc, nI_add]
    rfl
  refine ⟨⟨fun d hd => ?_, ⟨rfl, ?_⟩, fun d hd => ?_, fun d hd => ?_, fun i hi => ?_, ⟨?_, ?_, ?_, ?_, ?_, ?_, ?_⟩, fun j j1 j2 => ?_, ?_, ?_⟩, tm, rfl⟩
  · show z 0 d = _
    rw [t1, if_pos hd, nx_h hd]
    rfl
  · show z 8 8 = _
    rw [t4 8 (by omega) (by omega), c7 8 (by omega) (by omega) (by omega) (by omega), R2, nx_25]
  · show fX4_addDots (z 6) (nI X) d = _
    rw [addDots_v _ _ hd, t2 6 (by omega) (by omega), c6 6 (by omega) (by omega), R4 d hd, bitOf_nI (by omega) hd, nx_p hd]
  · show fX4_addDots (z 7) (nI (mkN 24 (fun d => X.testBit d && !(spN r X (ptN r X)).2.1 d))) d = _
    rw [addDots_v _ _ hd, t2 7 (by omega) (by omega), c6 7 (by omega) (by omega), R5 d hd, bit_mkN _ hd, nx_f hd]
    rfl
  · show z 2 i = _
    rw [t2 2 (by omega) (by omega), e2, R6 i hi, nx_s (by omega) (by omega)]
  · show z 8 10 = _
    rw [t4 10 (by omega) (by omega), c7 10 (by omega) (by omega) (by omega) (by omega), R7, nx_s (by omega) (by omega)]
  · show z 8 1 = _
    rw [tm, R8, nx_82]
  · show z 8 2 + 1 = _
    rw [t4 2 (by omega) (by omega), c7 2 (by omega) (by omega) (by omega) (by omega), R9, nx_83]
  · show z 8 3 + _ = _
    rw [t4 3 (by omega) (by omega), c7 3 (by omega) (by omega) (by omega) (by omega), R10, nx_84]
  · show z 8 4 = _
    rw [t4 4 (by omega) (by omega), c4, R11, nx_85]
    rfl
  · show z 8 7 = _
    rw [t4 7 (by omega) (by omega), c5, nx_86]
    rfl
  · show (if z 8 0 + 1 < 12 then z 8 0 + 1 else 12) = _
    rw [s0, w10, nx_87]
  · rw [nx_87, nI_clamp (by omega)] at j1
    by_cases q : j = 0
    · subst q
      refine ⟨?_, ?_, ?_⟩
      · show fX3_pushFront (z 3) s.1 0 = _
        rw [pd0, c1]
        exact nx_88.symm
      · show fX3_pushFront (z 4) (nI (mkN 24 (fun d => X.testBit d && !(spN r X (ptN r X)).2.1 d))) 0 = _
        rw [pf0]
        exact nx_89.symm
      · show fX3_pushFront (z 5) (nI (ptN r X)) 0 = _
        rw [pp0]
        exact nx_90.symm
    · have g := R14 (j - 1) (by show j - 1 < aN r 87; omega) (by omega)
      refine ⟨?_, ?_, ?_⟩
      · show fX3_pushFront (z 3) s.1 j = _
        rw [pd j (by omega) j2, t2 3 (by omega) (by omega), c6 3 (by omega) (by omega), g.1, nx_l (by omega), show 88 + 3 * j - 3 = 88 + 3 * (j - 1) by omega]
      · show fX3_pushFront (z 4) (nI (mkN 24 (fun d => X.testBit d && !(spN r X (ptN r X)).2.1 d))) j = _
        rw [pf j (by omega) j2, t2 4 (by omega) (by omega), c6 4 (by omega) (by omega), g.2.1, nx_l (by omega), show 89 + 3 * j - 3 = 89 + 3 * (j - 1) by omega]
      · show fX3_pushFront (z 5) (nI (ptN r X)) j = _
        rw [pp j (by omega) j2, t2 5 (by omega) (by omega), c6 5 (by omega) (by omega), g.2.2, nx_l (by omega), show 90 + 3 * j - 3 = 90 + 3 * (j - 1) by omega]
  · show z 8 5 + fJ6_bitCount_0f7a4 (nI X) = _
    rw [t4 5 (by omega) (by omega), c7 5 (by omega) (by omega) (by omega) (by omega), R15, eb, ← smF_add]
    exact smF_congr 24 (fun d hd => by rw [nx_p hd])
  · show z 8 6 + fJ6_bitCount_0f7a4 (nI (mkN 24 (fun d => X.testBit d && !(spN r X (ptN r X)).2.1 d))) = _
    rw [t4 6 (by omega) (by omega), c7 6 (by omega) (by omega) (by omega) (by omega), R16, ← smF_bits X]
    exact smF_congr 24 (fun d hd => by rw [nx_f hd]; rfl)
theorem RelS_pp {v v0 : SV} {r : Nat → Int32} (R : RelS v r) (h0 : v0 0 = v 0) (h1 : ∀ k, 2 ≤ k → k < 8 → v0 k = v k) (h2 : ∀ k, k < 11 → v0 8 k = v 8 k) : RelS v0 r := by
  unfold RelS at R ⊢
  rw [h0, h1 2 (by omega) (by omega), h1 3 (by omega) (by omega), h1 4 (by omega) (by omega), h1 5 (by omega) (by omega), h1 6 (by omega) (by omega), h1 7 (by omega) (by omega), h2 0 (by omega), h2 1 (by omega), h2 2 (by omega), h2 3 (by omega), h2 4 (by omega), h2 5 (by omega), h2 6 (by omega), h2 7 (by omega), h2 8 (by omega), h2 9 (by omega), h2 10 (by omega)]
  exact R
theorem PL2 {v : SV} {r : Nat → Int32} {X B : Nat} (G : Gd B r) (R : RelS v r) (hX : X < 2 ^ 24) {u : SV × Int32} (hu : u = fX2_printLine v (nI X)) : RelS u.1 (nxt r X) ∧ u.2 = nI (lnT r X) := by
  have g1 := G.1
  obtain ⟨a1, a2⟩ := aoN_le g1
  have hp := ptN_le g1 X
  have R' := R
  obtain ⟨R1, ⟨R2, R3⟩, R4, R5, R6, ⟨R7, R8, R9, R10, R11, R12, R13⟩, R14, R15, R16⟩ := R'
  obtain ⟨q1, q2, q3, q4⟩ := preparePulses_2 (v := v) (X := X) g1 R7 R2 R3 (R6 0 (by omega))
  obtain ⟨v0, ev⟩ : ∃ z, z = fX2_preparePulses v (nI X) := ⟨_, rfl⟩
  rw [← ev] at q1 q2 q3 q4
  have R0 : RelS v0 r := RelS_pp R q2 q3 q4
  have e1 : fX2_printLine v (nI X) = tX2_printLine_45 v (nI X) (v 8 1) (nI (aoN r)) (nI (ptN r X)) (lpF (ptN r X) 0 (bX2_printLine_45 v (nI X) (v 8 1) (nI (aoN r)) (nI (ptN r X))) (0, v0)) := by
    unfold fX2_printLine
    rw [dotsAtOnce_2 g1 (R6 3 (by omega)) (R6 4 (by omega)), bitCount_n hX, parts_i g1 X, if_pos (show (1 : Int32) ≤ nI (aoN r) from nI_le (a := 1) a1 (by omega))]
    unfold tX2_printLine_J32
    dsimp only
    rw [nI_clamp (by omega), ev]
  have key := lpF_0 (fun k s => k ≤ ptN r X → CR v0 r X (aN r 86) k s) (b := bX2_printLine_45 v (nI X) (v 8 1) (nI (aoN r)) (nI (ptN r X))) (ptN r X) (0, v0) (fun k s hk hs _ => cr_step g1 (fun d hd => (G.2.1 d hd).2) hX G.2.2.1.2 q1 (fun i hi => R0.2.2.2.2.1 i hi) R0.2.2.2.2.2.1.1 hk s (hs (by omega))) (fun _ => by
    refine ⟨?_, fun d hd => ?_, ?_, ?_, ?_, fun _ _ _ => rfl, fun _ _ _ _ _ => rfl⟩
    · show 0 = nI (mkN 24 (fun _ => false))
      rw [mkN_F, nI_0]
    · show v0 0 d = nI (if d < 24 then aN r d else 0)
      rw [R0.1 d hd, if_pos hd]
      exact (G.2.1 d hd).1
    · show v0 8 1 = v0 8 1 + nI 0
      rw [nI_0, Int32.add_zero]
    · show v0 8 4 = v0 8 4 + nI 0
      rw [nI_0, Int32.add_zero]
    · show v0 8 7 = nI (max (aN r 86) 0)
      rw [Nat.max_zero, R0.2.2.2.2.2.1.2.2.2.2.2.1]
      exact G.2.2.1.1) (Nat.le_refl _)
  obtain ⟨k1, k2, k3⟩ := PL2_end (v := v) (x2 := v 8 1) (y3 := nI (aoN r)) G R0 hX key rfl
  rw [hu, e1]
  refine ⟨k1, k3.trans ?_⟩
  rw [k2, q4 1 (by omega), Int32.add_comm, Int32.add_sub_cancel]

/-! from 76.pure18.lean.txt -/
theorem SI_rw {r r' : Nat → Int32} (h : ∀ k, k < 124 → r' k = r k) (G : SI r) : SI r' := SI_congr (fun k _ k2 => h k (by omega)) G
theorem Gd_row {B : Nat} {r r' : Nat → Int32} (h : ∀ k, k < 124 → r' k = r k) (G : Gd B r) : Gd B r' := by
  obtain ⟨g1, g2, g3, g4, g5, g6⟩ := G
  refine ⟨SI_rw h g1, fun d hd => ?_, ?_, ?_, fun j hj => ?_, fun d hd => ?_⟩
  · rw [aN_e (h d (by omega)), h d (by omega)]; exact g2 d hd
  · rw [aN_e (h 86 (by omega)), h 86 (by omega)]; exact g3
  · rw [aN_e (h 87 (by omega)), h 87 (by omega)]; exact g4
  · rw [aN_e (h (90 + 3 * j) (by omega)), h (90 + 3 * j) (by omega)]; exact g5 j hj
  · rw [aN_e (h (26 + d) (by omega)), h (26 + d) (by omega), aN_e (h (50 + d) (by omega)), h (50 + d) (by omega)]; exact g6 d hd
theorem Gd_mono {B B' : Nat} {r : Nat → Int32} (h : B ≤ B') (G : Gd B r) : Gd B' r := by
  obtain ⟨g1, g2, g3, g4, g5, g6⟩ := G
  exact ⟨g1, g2, g3, g4, g5, fun d hd => ⟨(g6 d hd).1, (g6 d hd).2.1, (g6 d hd).2.2.1, Nat.le_trans (g6 d hd).2.2.2 h⟩⟩
theorem RelS_row {v : SV} {r r' : Nat → Int32} (h : ∀ k, k < 124 → r' k = r k) (R : RelS v r) : RelS v r' := by
  obtain ⟨R1, ⟨R2, R3⟩, R4, R5, R6, ⟨R7, R8, R9, R10, R11, R12, R13⟩, R14, R15, R16⟩ := R
  refine ⟨fun d hd => ?_, ⟨?_, ?_⟩, fun d hd => ?_, fun d hd => ?_, fun i hi => ?_, ⟨?_, ?_, ?_, ?_, ?_, ?_, ?_⟩, fun j j1 j2 => ?_, ?_, ?_⟩
  · rw [h d (by omega)]; exact R1 d hd
  · rw [h 24 (by omega)]; exact R2
  · rw [h 25 (by omega)]; exact R3
  · rw [h (26 + d) (by omega)]; exact R4 d hd
  · rw [h (50 + d) (by omega)]; exact R5 d hd
  · rw [h (74 + i) (by omega)]; exact R6 i hi
  · rw [h 81 (by omega)]; exact R7
  · rw [h 82 (by omega)]; exact R8
  · rw [h 83 (by omega)]; exact R9
  · rw [h 84 (by omega)]; exact R10
  · rw [h 85 (by omega)]; exact R11
  · rw [h 86 (by omega)]; exact R12
  · rw [h 87 (by omega)]; exact R13
  · rw [h 87 (by omega)] at j1
    rw [h (88 + 3 * j) (by omega), h (89 + 3 * j) (by omega), h (90 + 3 * j) (by omega)]; exact R14 j j1 j2
  · rw [R15]
    exact smF_congr 24 (fun d hd => (h (26 + d) (by omega)).symm)
  · rw [R16]
    exact smF_congr 24 (fun d hd => (h (50 + d) (by omega)).symm)
theorem copyRow_v (n : Nat) (f g : Nat → Int32) {i : Nat} (hi : i < n) : fX5_copyRow n f n g i = f i := by
  unfold fX5_copyRow
  rw [pk_cpy_in (by omega) (by omega)]
  congr 1
  omega
theorem copyFrom_v (v w : SV) : (∀ d, d < 24 → fX2_copyFrom v w 0 d = w 0 d) ∧ (∀ i, i < 7 → fX2_copyFrom v w 2 i = w 2 i) ∧ (∀ j, j < 12 → fX2_copyFrom v w 3 j = w 3 j ∧ fX2_copyFrom v w 4 j = w 4 j ∧ fX2_copyFrom v w 5 j = w 5 j) ∧ (∀ d, d < 24 → fX2_copyFrom v w 6 d = w 6 d ∧ fX2_copyFrom v w 7 d = w 7 d) ∧ (∀ k, k < 11 → fX2_copyFrom v w 8 k = w 8 k) := by
  refine ⟨fun d hd => ?_, fun i hi => ?_, fun j hj => ⟨?_, ?_, ?_⟩, fun d hd => ⟨?_, ?_⟩, al11 rfl rfl rfl rfl rfl rfl rfl rfl rfl rfl rfl⟩
  · exact copyRow_v 24 (w 0) (v 0) hd
  · exact copyRow_v 7 (w 2) (v 2) hi
  · exact copyRow_v 12 (w 3) (v 3) hj
  · exact copyRow_v 12 (w 4) (v 4) hj
  · exact copyRow_v 12 (w 5) (v 5) hj
  · exact copyRow_v 24 (w 6) (v 6) hd
  · exact copyRow_v 24 (w 7) (v 7) hd
theorem RelS_copy {v w : SV} {r : Nat → Int32} (R : RelS w r) : RelS (fX2_copyFrom v w) r := by
  obtain ⟨h0, h2, h3, h6, h8⟩ := copyFrom_v v w
  obtain ⟨R1, ⟨R2, R3⟩, R4, R5, R6, ⟨R7, R8, R9, R10, R11, R12, R13⟩, R14, R15, R16⟩ := R
  refine ⟨fun d hd => ?_, ⟨?_, ?_⟩, fun d hd => ?_, fun d hd => ?_, fun i hi => ?_, ⟨?_, ?_, ?_, ?_, ?_, ?_, ?_⟩, fun j j1 j2 => ?_, ?_, ?_⟩
  · rw [h0 d hd]; exact R1 d hd
  · rw [h8 8 (by omega)]; exact R2
  · rw [h8 9 (by omega)]; exact R3
  · rw [(h6 d hd).1]; exact R4 d hd
  · rw [(h6 d hd).2]; exact R5 d hd
  · rw [h2 i hi]; exact R6 i hi
  · rw [h8 10 (by omega)]; exact R7
  · rw [h8 1 (by omega)]; exact R8
  · rw [h8 2 (by omega)]; exact R9
  · rw [h8 3 (by omega)]; exact R10
  · rw [h8 4 (by omega)]; exact R11
  · rw [h8 7 (by omega)]; exact R12
  · rw [h8 0 (by omega)]; exact R13
  · rw [(h3 j j2).1, (h3 j j2).2.1, (h3 j j2).2.2]; exact R14 j j1 j2
  · rw [h8 5 (by omega)]; exact R15
  · rw [h8 6 (by omega)]; exact R16
def R1 (n : Nat) (s : SV) (r : Nat → Int32) : Prop := RelS s r ∧ Gd (300 * n) r
theorem al6 {P : Nat → Prop} (h0 : P 0) (h1 : P 1) (h2 : P 2) (h3 : P 3) (h4 : P 4) (h5 : P 5) : ∀ k, k < 6 → P k := fun k b => match k, b with
  | 0, _ => h0
  | 1, _ => h1
  | 2, _ => h2
  | 3, _ => h3
  | 4, _ => h4
  | 5, _ => h5
  | k + 6, h => absurd h (by omega)
def mkU (x : HV) (k : Nat) (c : SV) (a : Int32) : HV := mkH (hU x k c 0) (hU x k c 1) (hU x k c 2) (hU x k c 3) (hU x k c 4) (hU x k c 5) (hU x k c 6) (hU x k c 7) (hU x k c 8) (hU x k c 9 0) (hU x k c 9 1) a (hU x k c 9 2 1) (hU x k c 9 2 2)
theorem mkU_at (x : HV) (k : Nat) (c : SV) (a : Int32) : ∀ j, j < 6 → mkU x k c a (3 + j) = sl x k c j := al6 rfl rfl rfl rfl rfl rfl
theorem drop_at (x : HV) : ∀ j, j < 6 → j < 5 → fX5_dropOldest x (3 + j) = x (3 + (j + 1)) := al6 (fun _ => rfl) (fun _ => rfl) (fun _ => rfl) (fun _ => rfl) (fun _ => rfl) (fun h => absurd h (by omega))
theorem save_5 {x : HV} {k : Nat} (hk : k ≤ 6) (h9 : x 9 2 0 = nI k) {y : HV} (hy : y = fX5_saveState x) : (∃ t, y (3 + min k 5) = fX2_copyFrom t (x 0)) ∧ (∀ j, j < min k 5 → y (3 + j) = x (3 + (if k = 6 then j + 1 else j))) ∧ y 9 2 0 = nI (min k 5 + 1) ∧ y 0 = x 0 ∧ y 1 = x 1 ∧ y 9 0 = x 9 0 ∧ y 9 1 = x 9 1 ∧ y 9 2 1 = x 9 2 1 ∧ y 9 2 2 = x 9 2 2 := by
  by_cases q : k = 6
  · subst q
    have e : y = mkU (fX5_dropOldest x) 5 (fX2_copyFrom (x 3) (x 0)) 6 := by
      rw [hy]
      unfold fX5_saveState
      rw [if_neg (by rw [h9]; exact nI_nlt (Nat.le_refl _) (by omega))]
      rfl
    rw [e]
    refine ⟨⟨x 3, (mkU_at _ _ _ _ 5 (by omega)).trans (if_pos rfl)⟩, fun j hj => ?_, rfl, rfl, rfl, rfl, rfl, rfl, rfl⟩
    rw [if_pos rfl]
    have hj : j < 5 := by omega
    exact (mkU_at _ _ _ _ j (by omega)).trans ((if_neg (by omega)).trans (drop_at x j (by omega) hj))
  · have e : y = mkU x k (fX2_copyFrom (x (3 + k)) (x 0)) (nI k + 1) := by
      rw [hy]
      unfold fX5_saveState
      rw [if_pos (by rw [h9]; exact nI_lt (by omega) (by omega)), h9, nI_clamp (by omega), ← h9]
      rfl
    rw [e, Nat.min_eq_left (by omega)]
    refine ⟨⟨x (3 + k), (mkU_at _ _ _ _ k (by omega)).trans (if_pos rfl)⟩, fun j hj => ?_, nI_1 k, rfl, rfl, rfl, rfl, rfl, rfl⟩
    rw [if_neg q]
    exact (mkU_at _ _ _ _ j (by omega)).trans (if_neg (by omega))
/-! from 77.pure19.lean.txt -/
def hoN (r : Nat → Int32) : Nat := mxN 24 (fun _ => true) (aN r)
theorem hoN_le {B : Nat} {r : Nat → Int32} (G : Gd B r) : hoN r ≤ 900 := mxN_le 24 (fun d hd _ => (G.2.1 d hd).2)
theorem hottestDot_2 {v : SV} {r : Nat → Int32} {B : Nat} (G : Gd B r) (R : ∀ d, d < 24 → v 0 d = r d) : fX2_hottestDot v = nI (hoN r) := by
  unfold fX2_hottestDot tX2_hottestDot_4
  dsimp only
  refine lpF_0 (fun i s => i ≤ 24 → s = nI (mxN i (fun _ => true) (aN r))) 24 0 ?_ (fun _ => nI_0.symm) (Nat.le_refl _)
  intro d s hd hs _
  rw [hs (by omega), mxN_t rfl]
  unfold bX2_hottestDot_4
  dsimp only
  have g1 : mxN d (fun _ => true) (aN r) ≤ 900 := mxN_le d (fun j hj _ => (G.2.1 j (by omega)).2)
  have g2 := (G.2.1 d hd).2
  rw [R d hd, (G.2.1 d hd).1]
  exact imx (by omega) (by omega)
theorem dotByDot_2 {v : SV} {r : Nat → Int32} (R : RelS v r) : fX4_dotByDot v = smF 24 (fun d => r (26 + d)) := (smF_lp (fun d => v 6 d) 24).trans (smF_congr 24 (fun d hd => R.2.2.1 d hd))
theorem pulseAlone_2 {v : SV} {r : Nat → Int32} {d s : Nat} (hI : SI r) (R : RelS v r) (h1 : 50 ≤ s) (h2 : s ≤ 300) : fX2_pulseAlone v (nI d) (nI s) = nI (psN r 0 d (nI s)) := by
  unfold fX2_pulseAlone
  rw [pulseIn_pl, R.2.2.2.2.2.1.1, R.2.1.1, R.2.1.2]
  exact (psN_spec hI 0 d h1 h2).1
theorem waitFor_2 {v : SV} {r : Nat → Int32} {h p : Nat} (hI : SI r) (R : RelS v r) (hh : h ≤ 900) (hp : p ≤ 325) : fX2_waitFor v (nI h) (nI p) = nI (wN (aN r 75) (aN r 76 - p) h) := by
  obtain ⟨-, ⟨h75, b1, b2⟩, ⟨h76, b3, b4⟩, -⟩ := SI_n hI
  unfold fX2_waitFor
  rw [show fX5_at 7 (v 2) 2 = nI (aN r 76) from (at7 (v 2) 2 (by omega)).trans (by rw [R.2.2.2.2.1 2 (by omega)]; exact h76), pk_sub (by omega)]
  exact timeDownTo_n (by rw [R.2.2.2.2.1 1 (by omega)]; exact h75) (by omega) (by omega) hh (by omega)
def dkB (r : Nat → Int32) (d s : Nat) : Bool := decide (dkN (aN r 81) ≤ coolN (aN r 75) (wN (aN r 75) (aN r 76 - psN r 0 d (nI s)) (aN r d)) (aN r d) + psN r 0 d (nI s))
theorem dkB_2 {v : SV} {r : Nat → Int32} {B d s : Nat} (G : Gd B r) (R : RelS v r) (hd : d < 24) (h1 : 50 ≤ s) (h2 : s ≤ 300) : fX2_isDark v ((fX2_cooledFor v (fX5_at 24 (v 0) (nI d)) (fX2_waitFor v (fX5_at 24 (v 0) (nI d)) (fX2_pulseAlone v (nI d) (nI s)))) + (fX2_pulseAlone v (nI d) (nI s))) = if dkB r d s then 1 else 0 := by
  obtain ⟨-, ⟨h75, b1, b2⟩, -, -, -, -, -, h81, q2⟩ := SI_n G.1
  obtain ⟨hd1, hd2⟩ := G.2.1 d hd
  obtain ⟨-, p1, p2⟩ := psN_spec G.1 0 d h1 h2
  have a0 : fX5_at 24 (v 0) (nI d) = nI (aN r d) := (atN (v 0) hd (by omega)).trans ((R.1 d hd).trans hd1)
  have hw := wN_le (aN r 75) (aN r 76 - psN r 0 d (nI s)) (aN r d)
  have hc := coolN_le (aN r 75) (wN (aN r 75) (aN r 76 - psN r 0 d (nI s)) (aN r d)) (aN r d)
  rw [a0, pulseAlone_2 G.1 R h1 h2, waitFor_2 G.1 R hd2 p2, cooledFor_X2 (c := aN r 75) (by rw [R.2.2.2.2.1 1 (by omega)]; exact h75) (by omega) (by omega) (by omega) (by omega), nI_add, isDark_2 (p := aN r 81) (by rw [R.2.2.2.2.2.1.1]; exact h81) q2 (by omega)]
  unfold dkB
  by_cases z : dkN (aN r 81) ≤ coolN (aN r 75) (wN (aN r 75) (aN r 76 - psN r 0 d (nI s)) (aN r d)) (aN r d) + psN r 0 d (nI s)
  · rw [if_pos z, if_pos (decide_eq_true z)]
  · rw [if_neg z, if_neg (by rw [decide_eq_false z]; decide)]
theorem lpR_snoc (p : Nat → Bool) (n : Nat) : ∀ (i : Nat) (q : Int32), Sum.elim (fun _ => q) id (lpR (n + 1) i (fun d (_ : Unit) => if p d then (Sum.inr (nI d) : Unit ⊕ Int32) else Sum.inl ()) ()) = Sum.elim (fun _ => if p (i + n) then nI (i + n) else q) id (lpR n i (fun d (_ : Unit) => if p d then (Sum.inr (nI d) : Unit ⊕ Int32) else Sum.inl ()) ()) := by
  induction n with
  | zero =>
    intro i q
    by_cases h : p i = true
    · rw [lpR_r (if_pos h)]
      show nI i = if p (i + 0) then nI (i + 0) else q
      rw [Nat.add_zero, if_pos h]
    · rw [lpR_l (if_neg h)]
      show q = if p (i + 0) then nI (i + 0) else q
      rw [Nat.add_zero, if_neg h]
  | succ n ih =>
    intro i q
    by_cases h : p i = true
    · rw [lpR_r (if_pos h), lpR_r (if_pos h)]
      rfl
    · have e : ∀ m, lpR (m + 1) i (fun d (_ : Unit) => if p d then (Sum.inr (nI d) : Unit ⊕ Int32) else Sum.inl ()) () = lpR m (i + 1) (fun d (_ : Unit) => if p d then (Sum.inr (nI d) : Unit ⊕ Int32) else Sum.inl ()) () := fun m => lpR_l (if_neg h)
      rw [e (n + 1), e n, ih (i + 1) q, show i + 1 + n = i + (n + 1) by omega]
theorem lpR_congr {σ ρ : Type} {b b' : Nat → σ → σ ⊕ ρ} (n : Nat) : ∀ (i : Nat) (s : σ), (∀ d t, i ≤ d → d < i + n → b d t = b' d t) → lpR n i b s = lpR n i b' s := by
  induction n with
  | zero => exact fun i s _ => rfl
  | succ n ih =>
    intro i s h
    show lpRs n i b (b i s) = lpRs n i b' (b' i s)
    rw [h i s (Nat.le_refl _) (by omega)]
    unfold lpRs
    split
    · exact ih (i + 1) _ (fun d t h1 h2 => h d t (by omega) (by omega))
    · rfl
/-! from 78.pure20.lean.txt -/
theorem lpF_2 {σ τ : Type} (P : Nat → σ → τ → Prop) {b : Nat → σ → σ} {b' : Nat → τ → τ} (n : Nat) (s : σ) (t : τ) (hs : ∀ d s t, d < n → P d s t → P (d + 1) (b d s) (b' d t)) (h0 : P 0 s t) : P n (lpF n 0 b s) (lpF n 0 b' t) := by
  have key : ∀ (n i : Nat) (s : σ) (t : τ), (∀ d s t, i ≤ d → d < i + n → P d s t → P (d + 1) (b d s) (b' d t)) → P i s t → P (i + n) (lpF n i b s) (lpF n i b' t) := by
    intro n
    induction n with
    | zero => exact fun i s t _ h => h
    | succ n ih =>
      intro i s t hs h
      rw [show i + (n + 1) = i + 1 + n by omega]
      exact ih (i + 1) _ _ (fun d s t h1 h2 h3 => hs d s t (by omega) (by omega) h3) (hs i s t (Nat.le_refl _) (by omega) h)
  have h := key n 0 s t (fun d s t _ h2 h3 => hs d s t (by omega) h3) h0
  rw [Nat.zero_add] at h
  exact h
theorem put_v (n : Nat) (f : Nat → Int32) {i : Nat} (hi : i < n) (hn : n < 2 ^ 31) (z : Int32) : fX5_put n f (nI i) z = upd f i z := by
  unfold fX5_put
  rw [if_neg (nI_pos (by omega)), if_neg (nI_ge hi hn), nI_clamp (by omega)]
theorem RelS_set {v : SV} {r : Nat → Int32} {i : Nat} (R : RelS v r) (hi : i < 7) (z : Int32) : RelS (fX2_changeSetting v (nI i) z) (upd r (74 + i) z) := by
  obtain ⟨R1, ⟨R2, R3⟩, R4, R5, R6, ⟨R7, R8, R9, R10, R11, R12, R13⟩, R14, R15, R16⟩ := R
  have ro : ∀ k, k ≠ 74 + i → upd r (74 + i) z k = r k := fun k h => pk_un h
  unfold fX2_changeSetting
  rw [put_v 7 (v 2) hi (by omega)]
  refine ⟨fun d hd => ?_, ⟨?_, ?_⟩, fun d hd => ?_, fun d hd => ?_, fun j hj => ?_, ⟨?_, ?_, ?_, ?_, ?_, ?_, ?_⟩, fun j j1 j2 => ?_, ?_, ?_⟩
  · rw [ro d (by omega)]; exact R1 d hd
  · rw [ro 24 (by omega)]; exact R2
  · rw [ro 25 (by omega)]; exact R3
  · rw [ro (26 + d) (by omega)]; exact R4 d hd
  · rw [ro (50 + d) (by omega)]; exact R5 d hd
  · show upd (v 2) i z j = _
    by_cases q : j = i
    · rw [q, pk_us, pk_us]
    · rw [pk_un q, ro (74 + j) (by omega)]; exact R6 j hj
  · rw [ro 81 (by omega)]; exact R7
  · rw [ro 82 (by omega)]; exact R8
  · rw [ro 83 (by omega)]; exact R9
  · rw [ro 84 (by omega)]; exact R10
  · rw [ro 85 (by omega)]; exact R11
  · rw [ro 86 (by omega)]; exact R12
  · rw [ro 87 (by omega)]; exact R13
  · rw [ro 87 (by omega)] at j1
    rw [ro (88 + 3 * j) (by omega), ro (89 + 3 * j) (by omega), ro (90 + 3 * j) (by omega)]; exact R14 j j1 j2
  · exact R15.trans (smF_congr 24 (fun d hd => (ro (26 + d) (by omega)).symm))
  · exact R16.trans (smF_congr 24 (fun d hd => (ro (50 + d) (by omega)).symm))
theorem Gd_set {B : Nat} {r : Nat → Int32} {i : Nat} {z : Int32} (G : Gd B r) (hi : i < 7) (hI : SI (upd r (74 + i) z)) : Gd B (upd r (74 + i) z) := by
  obtain ⟨g1, g2, g3, g4, g5, g6⟩ := G
  have ro : ∀ k, k ≠ 74 + i → upd r (74 + i) z k = r k := fun k h => pk_un h
  refine ⟨hI, fun d hd => ?_, ?_, ?_, fun j hj => ?_, fun d hd => ?_⟩
  · rw [aN_e (ro d (by omega)), ro d (by omega)]; exact g2 d hd
  · rw [aN_e (ro 86 (by omega)), ro 86 (by omega)]; exact g3
  · rw [aN_e (ro 87 (by omega)), ro 87 (by omega)]; exact g4
  · rw [aN_e (ro (90 + 3 * j) (by omega)), ro (90 + 3 * j) (by omega)]; exact g5 j hj
  · rw [aN_e (ro (26 + d) (by omega)), ro (26 + d) (by omega), aN_e (ro (50 + d) (by omega)), ro (50 + d) (by omega)]; exact g6 d hd

