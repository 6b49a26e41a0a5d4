/-! the row behind a line -/
def spE (r : Nat → Int32) (X : Nat) : SP := spN r X (ptN r X)
def lnT (r : Nat → Int32) (X : Nat) : Nat := (spE r X).2.2.1 + aN r 80
def nxt (r : Nat → Int32) (X : Nat) : Nat → Int32 := fun k =>
  if k < 24 then nI (coolN (aN r 75) (aN r 80) ((spE r X).1 k)) else if k = 24 then nI X else if k = 25 then r 24 else if k < 50 then r k + nI (X.testBit (k - 26)).toNat
  else if k < 74 then r k + nI (X.testBit (k - 50) && !(spE r X).2.1 (k - 50)).toNat else if k < 82 then r k else if k = 82 then r 82 + nI (lnT r X) else if k = 83 then r 83 + 1 else if k = 84 then r 84 + nI (ptN r X)
  else if k = 85 then r 85 + nI (spE r X).2.2.2.1 else if k = 86 then nI (max (aN r 86) (spE r X).2.2.2.2) else if k = 87 then nI (min 12 (aN r 87 + 1)) else if k = 88 then nI (mkN 24 (spE r X).2.1)
  else if k = 89 then nI (mkN 24 (fun d => X.testBit d && !(spE r X).2.1 d)) else if k = 90 then nI (ptN r X) else r (k - 3)
section NX
variable {r : Nat → Int32} {X : Nat}
theorem nx_h {d : Nat} (hd : d < 24) : nxt r X d = nI (coolN (aN r 75) (aN r 80) ((spE r X).1 d)) := if_pos hd
theorem nx_24 : nxt r X 24 = nI X := rfl
theorem nx_25 : nxt r X 25 = r 24 := rfl
theorem nx_p {d : Nat} (hd : d < 24) : nxt r X (26 + d) = r (26 + d) + nI (X.testBit d).toNat := by
  unfold nxt
  rw [if_neg (by omega), if_neg (by omega), if_neg (by omega), if_pos (by omega), show 26 + d - 26 = d by omega]
theorem nx_f {d : Nat} (hd : d < 24) : nxt r X (50 + d) = r (50 + d) + nI (X.testBit d && !(spE r X).2.1 d).toNat := by
  unfold nxt
  rw [if_neg (by omega), if_neg (by omega), if_neg (by omega), if_neg (by omega), if_pos (by omega), show 50 + d - 50 = d by omega]
theorem nx_s {k : Nat} (h1 : 74 ≤ k) (h2 : k < 82) : nxt r X k = r k := by
  unfold nxt
  rw [if_neg (by omega), if_neg (by omega), if_neg (by omega), if_neg (by omega), if_neg (by omega), if_pos h2]
theorem nx_82 : nxt r X 82 = r 82 + nI (lnT r X) := rfl
theorem nx_83 : nxt r X 83 = r 83 + 1 := rfl
theorem nx_84 : nxt r X 84 = r 84 + nI (ptN r X) := rfl
theorem nx_85 : nxt r X 85 = r 85 + nI (spE r X).2.2.2.1 := rfl
theorem nx_86 : nxt r X 86 = nI (max (aN r 86) (spE r X).2.2.2.2) := rfl
theorem nx_87 : nxt r X 87 = nI (min 12 (aN r 87 + 1)) := rfl
theorem nx_88 : nxt r X 88 = nI (mkN 24 (spE r X).2.1) := rfl
theorem nx_89 : nxt r X 89 = nI (mkN 24 (fun d => X.testBit d && !(spE r X).2.1 d)) := rfl
theorem nx_90 : nxt r X 90 = nI (ptN r X) := rfl
theorem nx_l {k : Nat} (h : 91 ≤ k) : nxt r X k = r (k - 3) := by
  unfold nxt
  rw [if_neg (by omega), if_neg (by omega), if_neg (by omega), if_neg (by omega), if_neg (by omega), if_neg (by omega), if_neg (by omega), if_neg (by omega), if_neg (by omega), if_neg (by omega), if_neg (by omega), if_neg (by omega), if_neg (by omega), if_neg (by omega), if_neg (by omega)]
end NX
/-- what a row of the reference always is; B: how often a dot has printed at most -/
def Gd (B : Nat) (r : Nat → Int32) : Prop :=
  SI r ∧ (∀ d, d < 24 → r d = nI (aN r d) ∧ aN r d ≤ 900) ∧ (r 86 = nI (aN r 86) ∧ aN r 86 ≤ 900) ∧ (r 87 = nI (aN r 87) ∧ aN r 87 ≤ 12) ∧ (∀ j, j < 12 → r (90 + 3 * j) = nI (aN r (90 + 3 * j)) ∧ aN r (90 + 3 * j) ≤ 24) ∧ (∀ d, d < 24 → r (26 + d) = nI (aN r (26 + d)) ∧ r (50 + d) = nI (aN r (50 + d)) ∧ aN r (50 + d) ≤ aN r (26 + d) ∧ aN r (26 + d) ≤ B)
theorem aN_v {r : Nat → Int32} {k n b : Nat} (h : r k = nI n) (hn : n ≤ b) (hb : b < 2 ^ 31) : r k = nI (aN r k) ∧ aN r k ≤ b := by
  rw [aN_i h (by omega)]
  exact ⟨h, hn⟩
theorem Gd_nxt {B : Nat} {r : Nat → Int32} {X : Nat} (G : Gd B r) (hX : X < 2 ^ 24) (hB : B + 1 < 2 ^ 30) : Gd (B + 1) (nxt r X) := by
  obtain ⟨g1, g2, g3, g4, g5, g6⟩ := G
  obtain ⟨l1, l2⟩ := sp_le g1 (fun d hd => (g2 d hd).2) hX (ptN r X)
  have hp := ptN_le g1 X
  refine ⟨SI_congr (fun k k1 k2 => nx_s k1 (by omega)) g1, fun d hd => aN_v (nx_h hd) (Nat.le_trans (coolN_le _ _ _) (l1 d)) (by omega), aN_v nx_86 (Nat.max_le.mpr ⟨g3.2, l2⟩) (by omega), aN_v nx_87 (Nat.min_le_left _ _) (by omega), fun j hj => ?_, fun d hd => ?_⟩
  · by_cases q : j = 0
    · subst q
      exact aN_v nx_90 hp (by omega)
    · have e : nxt r X (90 + 3 * j) = r (90 + 3 * (j - 1)) := by
        rw [nx_l (by omega), show 90 + 3 * j - 3 = 90 + 3 * (j - 1) by omega]
      rw [show aN (nxt r X) (90 + 3 * j) = aN r (90 + 3 * (j - 1)) from congrArg Int32.toNatClampNeg e, e]
      exact g5 (j - 1) (by omega)
  · obtain ⟨a1, a2, a3, a4⟩ := g6 d hd
    have e1 : nxt r X (26 + d) = nI (aN r (26 + d) + (X.testBit d).toNat) := by rw [nx_p hd, a1, nI_add]
    have e2 : nxt r X (50 + d) = nI (aN r (50 + d) + (X.testBit d && !(spE r X).2.1 d).toNat) := by rw [nx_f hd, a2, nI_add]
    have h1 := Bool.toNat_le (X.testBit d)
    have h2 : (X.testBit d && !(spE r X).2.1 d).toNat ≤ (X.testBit d).toNat := by
      cases X.testBit d <;> cases (spE r X).2.1 d <;> decide
    rw [aN_i e1 (by omega), aN_i e2 (by omega)]
    exact ⟨e1, e2, by omega, by omega⟩
/-! the strip moves -/
theorem lpD_0 {σ : Type} (P : Nat → σ → Prop) {b : Nat → σ → σ} (n : Nat) : ∀ s : σ, (∀ d t, d < n → P (d + 1) t → P d (b (d + 1) t)) → P n s → P 0 (lpD n b s) := by
  induction n with
  | zero => exact fun s _ h => h
  | succ n ih => exact fun s hs h => ih (b (n + 1) s) (fun d t hd => hs d t (by omega)) (hs n s (by omega) h)
theorem pushFront_v (f : Nat → Int32) (x : Int32) : fX3_pushFront f x 0 = x ∧ ∀ j, 1 ≤ j → j < 12 → fX3_pushFront f x j = f (j - 1) := by
  have key := lpD_0 (fun n (s : Nat → Int32) => (∀ j, n < j → j < 12 → s j = f (j - 1)) ∧ ∀ j, j ≤ n → s j = f j) (b := bX3_pushFront_5 f x) 11 f (fun d t hd h => by
    obtain ⟨h1, h2⟩ := h
    refine ⟨fun j j1 j2 => ?_, fun j j1 => ?_⟩
    · show upd t (d + 1) (t (d + 1 - 1)) j = _
      by_cases q : j = d + 1
      · rw [q, pk_us, h2 _ (by omega)]
      · rw [pk_un q, h1 j (by omega) j2]
    · show upd t (d + 1) (t (d + 1 - 1)) j = _
      rw [pk_un (by omega), h2 j (by omega)]) ⟨fun j j1 j2 => absurd j1 (by omega), fun j _ => rfl⟩
  obtain ⟨k1, -⟩ := key
  have e : fX3_pushFront f x = upd (lpD 11 (bX3_pushFront_5 f x) f) 0 x := by
    unfold fX3_pushFront tX3_pushFront_5
    dsimp only
    unfold fX5_put
    rw [if_neg (by decide), if_neg (by decide)]
    rfl
  rw [e]
  exact ⟨pk_us, fun j j1 j2 => (pk_un (by omega)).trans (k1 j (by omega) j2)⟩
theorem addDots_v (f : Nat → Int32) (x : Int32) {d : Nat} (hd : d < 24) : fX4_addDots f x d = f d + fX5_bitOf x (nI d) := by
  have key := lpF_0 (fun n (s : Nat → Int32) => (∀ j, j < n → s j = f j + fX5_bitOf x (nI j)) ∧ ∀ j, n ≤ j → s j = f j) (b := bX4_addDots_2 f x) 24 f (fun d t hd h => by
    obtain ⟨h1, h2⟩ := h
    refine ⟨fun j j1 => ?_, fun j j1 => ?_⟩
    · show upd t d (t d + fX5_bitOf x (nI d)) j = _
      by_cases q : j = d
      · rw [q, pk_us, h2 d (Nat.le_refl _)]
      · rw [pk_un q, h1 j (by omega)]
    · show upd t d (t d + fX5_bitOf x (nI d)) j = _
      rw [pk_un (by omega), h2 j (by omega)]) ⟨fun j h => absurd h (Nat.not_lt_zero j), fun _ _ => rfl⟩
  exact key.1 d hd
theorem keepLine_v {v : SV} {x1 x2 : Int32} {n : Nat} (h87 : v 0 87 = nI n) (hn : n ≤ 12) {u : SV} (hu : u = fX6_keepLine v x1 x2) :
    u 0 87 = nI (min 12 (n + 1)) ∧ u 0 88 = v 8 4 ∧ u 0 89 = x1 &&& (v 8 4 ^^^ (-1)) ∧ u 0 90 = x2 ∧ (∀ k, 91 ≤ k → k < 124 → u 0 k = v 0 (k - 3)) ∧ (∀ k, k < 87 → u 0 k = v 0 k) ∧ (∀ k, 1 ≤ k → k < 8 → u k = v k) ∧ (∀ k, k < 9 → u 8 k = v 8 k) := by
  have key := lpD_0 (fun n (s : SV) => (∀ j, n + 2 < j → j < 36 → s 0 (88 + j) = v 0 (88 + j - 3)) ∧ (∀ j, j ≤ 88 + (n + 2) → s 0 j = v 0 j) ∧ (∀ k, 1 ≤ k → k < 8 → s k = v k) ∧ (∀ k, k < 9 → s 8 k = v 8 k)) (b := bX6_keepLine_3 v x1 x2) 33 v (fun d t hd h => by
    obtain ⟨h1, h2, h3, h4⟩ := h
    refine ⟨fun j j1 j2 => ?_, fun j j1 => ?_, al7 (h3 1 (by omega) (by omega)) (h3 2 (by omega) (by omega)) (h3 3 (by omega) (by omega)) (h3 4 (by omega) (by omega)) (h3 5 (by omega) (by omega)) (h3 6 (by omega) (by omega)) (h3 7 (by omega) (by omega)), al9 (h4 0 (by omega)) (h4 1 (by omega)) (h4 2 (by omega)) (h4 3 (by omega)) (h4 4 (by omega)) (h4 5 (by omega)) (h4 6 (by omega)) (h4 7 (by omega)) (h4 8 (by omega))⟩
    · show upd (t 0) (88 + (d + 1 + 2)) (t 0 (88 + (d + 1 + 2) - 3)) (88 + j) = _
      by_cases q : j = d + 1 + 2
      · rw [q, pk_us, h2 _ (by omega)]
      · rw [pk_un (by omega), h1 j (by omega) j2]
    · show upd (t 0) (88 + (d + 1 + 2)) (t 0 (88 + (d + 1 + 2) - 3)) j = _
      rw [pk_un (by omega), h2 j (by omega)]) ⟨fun j j1 j2 => absurd j1 (by omega), fun j _ => rfl, fun _ _ _ => rfl, fun _ _ => rfl⟩
  obtain ⟨k1, k2, k3, k4⟩ := key
  rw [hu]
  unfold fX6_keepLine
  obtain ⟨t, et⟩ : ∃ z, z = lpD 33 (bX6_keepLine_3 v x1 x2) v := ⟨_, rfl⟩
  rw [← et] at k1 k2 k3 k4 ⊢
  have e87 : upd (upd (upd (t 0) 88 (t 8 4)) 89 (x1 &&& ((t 8 4) ^^^ (-1)))) 90 x2 87 = nI n := by
    rw [pk_un (by omega), pk_un (by omega), pk_un (by omega), k2 87 (by omega), h87]
  have e : tX6_keepLine_3 v x1 x2 t = mkM (upd (upd (upd (upd (t 0) 88 (t 8 4)) 89 (x1 &&& ((t 8 4) ^^^ (-1)))) 90 x2) 87 (nI (min 12 (n + 1)))) (t 1) (t 2) (t 3) (t 4) (t 5) (t 6) (t 7) (t 8 0) (t 8 1) (t 8 2) (t 8 3) (t 8 4) (t 8 5) (t 8 6) (t 8 7) (t 8 8) := by
    unfold tX6_keepLine_3
    dsimp only
    rw [e87]
    by_cases q : 12 ≤ n
    · rw [if_pos (show (12 : Int32) ≤ nI n from nI_le (a := 12) q (by omega)), show min 12 (n + 1) = 12 by omega]
      rfl
    · rw [if_neg (show ¬ (12 : Int32) ≤ nI n from nI_ge (b := 12) (by omega) (by omega)), show min 12 (n + 1) = n + 1 by omega, nI_1]
  rw [e]
  have k4' := k4 4 (by omega)
  refine ⟨pk_us, ?_, ?_, ?_, fun k h1 h2 => ?_, fun k h1 => ?_, al7 (k3 1 (by omega) (by omega)) (k3 2 (by omega) (by omega)) (k3 3 (by omega) (by omega)) (k3 4 (by omega) (by omega)) (k3 5 (by omega) (by omega)) (k3 6 (by omega) (by omega)) (k3 7 (by omega) (by omega)), al9 (k4 0 (by omega)) (k4 1 (by omega)) (k4 2 (by omega)) (k4 3 (by omega)) (k4 4 (by omega)) (k4 5 (by omega)) (k4 6 (by omega)) (k4 7 (by omega)) (k4 8 (by omega))⟩
  · show upd (upd (upd (upd (t 0) 88 (t 8 4)) 89 (x1 &&& ((t 8 4) ^^^ (-1)))) 90 x2) 87 (nI (min 12 (n + 1))) 88 = _
    rw [pk_un (by omega), pk_un (by omega), pk_un (by omega), pk_us, k4']
  · show upd (upd (upd (upd (t 0) 88 (t 8 4)) 89 (x1 &&& ((t 8 4) ^^^ (-1)))) 90 x2) 87 (nI (min 12 (n + 1))) 89 = _
    rw [pk_un (by omega), pk_un (by omega), pk_us, k4']
  · show upd (upd (upd (upd (t 0) 88 (t 8 4)) 89 (x1 &&& ((t 8 4) ^^^ (-1)))) 90 x2) 87 (nI (min 12 (n + 1))) 90 = _
    rw [pk_un (by omega), pk_us]
  · show upd (upd (upd (upd (t 0) 88 (t 8 4)) 89 (x1 &&& ((t 8 4) ^^^ (-1)))) 90 x2) 87 (nI (min 12 (n + 1))) k = _
    rw [pk_un (by omega), pk_un (by omega), pk_un (by omega), pk_un (by omega), show k = 88 + (k - 88) by omega, k1 (k - 88) (by omega) (by omega)]
  · show upd (upd (upd (upd (t 0) 88 (t 8 4)) 89 (x1 &&& ((t 8 4) ^^^ (-1)))) 90 x2) 87 (nI (min 12 (n + 1))) k = _
    rw [pk_un (by omega), pk_un (by omega), pk_un (by omega), pk_un (by omega), k2 k (by omega)]
