/-! undo, keep, restore, clearBuffer, and the looks -/
def FRU (w z : SV) : Prop := (∀ j, 1 ≤ j → j < 8 → z j = w j) ∧ ∀ j, j < 9 → z 8 j = w 8 j
theorem FRU.rf (w : SV) : FRU w w := ⟨fun _ _ _ => rfl, fun _ _ => rfl⟩
theorem FRU.mk {w t : SV} (h : FRU w t) (f : Nat → Int32) : FRU w (mkM f (t 1) (t 2) (t 3) (t 4) (t 5) (t 6) (t 7) (t 8 0) (t 8 1) (t 8 2) (t 8 3) (t 8 4) (t 8 5) (t 8 6) (t 8 7) (t 8 8)) :=
  ⟨al7 (h.1 1 (by omega) (by omega)) (h.1 2 (by omega) (by omega)) (h.1 3 (by omega) (by omega)) (h.1 4 (by omega) (by omega)) (h.1 5 (by omega) (by omega)) (h.1 6 (by omega) (by omega)) (h.1 7 (by omega) (by omega)), al9 (h.2 0 (by omega)) (h.2 1 (by omega)) (h.2 2 (by omega)) (h.2 3 (by omega)) (h.2 4 (by omega)) (h.2 5 (by omega)) (h.2 6 (by omega)) (h.2 7 (by omega)) (h.2 8 (by omega))⟩
theorem cp_loop {w : SV} (g : Nat → Int32) {b : Nat → SV → SV} (hb : ∀ d t, d < 124 → FRU w t → b d t = mkM (upd (t 0) d (g d)) (t 1) (t 2) (t 3) (t 4) (t 5) (t 6) (t 7) (t 8 0) (t 8 1) (t 8 2) (t 8 3) (t 8 4) (t 8 5) (t 8 6) (t 8 7) (t 8 8)) {z : SV} (hz : z = lpF 124 0 b w) : (∀ i, i < 124 → z 0 i = g i) ∧ FRU w z := by
  rw [hz]
  refine lpF_0 (fun n (s : SV) => (∀ i, i < n → s 0 i = g i) ∧ FRU w s) 124 w (fun d t hd h => ?_) ⟨fun i hi => absurd hi (Nat.not_lt_zero i), FRU.rf w⟩
  obtain ⟨h1, h2⟩ := h
  rw [hb d t hd h2]
  refine ⟨fun i hi => ?_, h2.mk _⟩
  show upd (t 0) d (g d) i = _
  by_cases q : i = d
  · rw [q, pk_us]
  · rw [pk_un q, h1 i (by omega)]
theorem undo_loop {v w : SV} {j : Nat} (hj : j ≤ 6) (h8 : w 8 0 = nI j) {z : SV} (hz : z = lpF 124 0 (bX6_undo_30 v) w) : (∀ i, i < 124 → z 0 i = w 1 (124 * j + i)) ∧ FRU w z :=
  cp_loop (fun i => w 1 (124 * j + i)) (fun d t hd h => by
    unfold bX6_undo_30
    dsimp only
    rw [h.2 0 (by omega), h8, nI_clamp (by omega), h.1 1 (by omega) (by omega)]) hz
theorem restore_loop {v w : SV} {z : SV} (hz : z = lpF 124 0 (bX6_restore_24 v) w) : (∀ i, i < 124 → z 0 i = w 2 i) ∧ FRU w z :=
  cp_loop (fun i => w 2 i) (fun d t hd h => by
    unfold bX6_restore_24
    dsimp only
    rw [h.1 2 (by omega) (by omega)]) hz
theorem putBack_loop {w z : SV} (hz : z = fX6_putBack w) : (∀ i, i < 124 → z 0 i = w 3 i) ∧ FRU w z :=
  cp_loop (b := bX6_putBack_2 w) (fun i => w 3 i) (fun d t hd h => by
    unfold bX6_putBack_2
    dsimp only
    rw [h.1 3 (by omega) (by omega)]) (hz.trans (by unfold fX6_putBack tX6_putBack_2; rfl))
theorem keep_loop {v w z : SV} (hz : z = lpF 124 0 (bX6_keep_7 v) w) : (∀ i, i < 124 → z 2 i = w 0 i) ∧ z 0 = w 0 ∧ z 1 = w 1 ∧ z 4 = w 4 ∧ (∀ j, j < 9 → z 8 j = w 8 j) := by
  rw [hz]
  refine lpF_0 (fun n (s : SV) => (∀ i, i < n → s 2 i = w 0 i) ∧ s 0 = w 0 ∧ s 1 = w 1 ∧ s 4 = w 4 ∧ (∀ j, j < 9 → s 8 j = w 8 j)) 124 w (fun d t hd h => ?_) ⟨fun i hi => absurd hi (Nat.not_lt_zero i), rfl, rfl, rfl, fun _ _ => rfl⟩
  obtain ⟨h1, h2, h3, h4, h5⟩ := h
  refine ⟨fun i hi => ?_, h2, h3, h4, al9 (h5 0 (by omega)) (h5 1 (by omega)) (h5 2 (by omega)) (h5 3 (by omega)) (h5 4 (by omega)) (h5 5 (by omega)) (h5 6 (by omega)) (h5 7 (by omega)) (h5 8 (by omega))⟩
  show upd (t 2) d (t 0 d) i = _
  by_cases q : i = d
  · rw [q, pk_us, h2]
  · rw [pk_un q, h1 i (by omega)]
theorem putAside_loop {w z : SV} (hz : z = fX6_putAside w) : (∀ i, i < 124 → z 3 i = w 0 i) ∧ z 0 = w 0 ∧ z 1 = w 1 ∧ z 2 = w 2 ∧ z 4 = w 4 ∧ (∀ j, j < 9 → z 8 j = w 8 j) := by
  have e : z = lpF 124 0 (bX6_putAside_2 w) w := hz.trans (by unfold fX6_putAside tX6_putAside_2; rfl)
  rw [e]
  refine lpF_0 (fun n (s : SV) => (∀ i, i < n → s 3 i = w 0 i) ∧ s 0 = w 0 ∧ s 1 = w 1 ∧ s 2 = w 2 ∧ s 4 = w 4 ∧ (∀ j, j < 9 → s 8 j = w 8 j)) 124 w (fun d t hd h => ?_) ⟨fun i hi => absurd hi (Nat.not_lt_zero i), rfl, rfl, rfl, rfl, fun _ _ => rfl⟩
  obtain ⟨h1, h2, h3, h3', h4, h5⟩ := h
  refine ⟨fun i hi => ?_, h2, h3, h3', h4, al9 (h5 0 (by omega)) (h5 1 (by omega)) (h5 2 (by omega)) (h5 3 (by omega)) (h5 4 (by omega)) (h5 5 (by omega)) (h5 6 (by omega)) (h5 7 (by omega)) (h5 8 (by omega))⟩
  show upd (t 3) d (t 0 d) i = _
  by_cases q : i = d
  · rw [q, pk_us, h2]
  · rw [pk_un q, h1 i (by omega)]
theorem op_undo {n : Nat} {x : HV} {v : SV} (R : RelH n x v) : OKF (n + 1) (fun _ => 1) (fX5_undo x) (fX6_undo v) := by
  obtain ⟨q1, ⟨q2, q3⟩, ⟨k, k1, k2, k3, k4⟩, ⟨l, l1, l2, l3, l4⟩, q6⟩ := R.mono (Nat.le_succ n)
  have e1 : fX5_undo x = if 1 ≤ x 9 2 0 then .inl (mkH (fX2_copyFrom (x 0) ((mkH (x 0) (x 1) (x 2) (x 3) (x 4) (x 5) (x 6) (x 7) (x 8) (x 9 0) (x 9 1) (x 9 2 0 - 1) (x 9 2 1) (x 9 2 2)) (3 + (x 9 2 0 - 1).toNatClampNeg))) (x 1) (x 2) (x 3) (x 4) (x 5) (x 6) (x 7) (x 8) (x 9 0) (x 9 1) (x 9 2 0 - 1) (x 9 2 1) (x 9 2 2), x 9 2 0 - 1) else .inr (2, x) := rfl
  have e2 : fX6_undo v = if v 8 0 = 0 then fX6_fails (thr0 v) 1 else (lpF 124 0 (bX6_undo_30 v) (mkM (v 0) (v 1) (v 2) (v 3) (v 4) (v 5) (v 6) (v 7) (v 8 0 - 1) (v 8 1) 0 (v 8 3) (v 8 4) (v 8 5) (v 8 6) (v 8 7) (v 8 8)), lpF 124 0 (bX6_undo_30 v) (mkM (v 0) (v 1) (v 2) (v 3) (v 4) (v 5) (v 6) (v 7) (v 8 0 - 1) (v 8 1) 0 (v 8 3) (v 8 4) (v 8 5) (v 8 6) (v 8 7) (v 8 8)) 8 0) := rfl
  rw [e1, e2, k2, k3]
  cases k with
  | zero =>
    rw [if_neg (by decide), if_pos (by decide)]
    exact OKF.out (v := v) R (by omega) rfl rfl rfl rfl rfl rfl rfl rfl (by decide)
  | succ j =>
    rw [if_pos (show (1 : Int32) ≤ nI (j + 1) from nI_le (a := 1) (by omega) (by omega)), if_neg (nI_ne0 (by omega) (by omega)), nI_pred, nI_clamp (by omega)]
    obtain ⟨w, ew⟩ : ∃ w, w = mkM (v 0) (v 1) (v 2) (v 3) (v 4) (v 5) (v 6) (v 7) (nI j) (v 8 1) 0 (v 8 3) (v 8 4) (v 8 5) (v 8 6) (v 8 7) (v 8 8) := ⟨_, rfl⟩
    obtain ⟨z, ez⟩ : ∃ z, z = lpF 124 0 (bX6_undo_30 v) w := ⟨_, rfl⟩
    rw [← ew, ← ez]
    obtain ⟨h1, h2, h3⟩ := undo_loop (j := j) (by omega) (by rw [ew]; rfl) ez
    have w1 : w 1 = v 1 := by rw [ew]; rfl
    have ex : ∀ i, i < 6 → mkH (x 0) (x 1) (x 2) (x 3) (x 4) (x 5) (x 6) (x 7) (x 8) (x 9 0) (x 9 1) (nI j) (x 9 2 1) (x 9 2 2) (3 + i) = x (3 + i) := al6 rfl rfl rfl rfl rfl rfl
    rw [ex j (by omega)]
    refine OKF.val ⟨R1.copy (R1.row (fun i hi => (h1 i hi).trans (by rw [w1])) (k4 j (by omega))), ⟨?_, ?_⟩, ⟨j, by omega, rfl, ?_, fun i hi => ?_⟩, ⟨l, l1, l2, ?_, ?_⟩, q6⟩ ?_ ?_
    · rw [h3 1 (by omega), ew]; exact q2
    · rw [h3 1 (by omega), h2 2 (by omega) (by omega), ew]; exact q3
    · rw [h3 0 (by omega), ew]; rfl
    · rw [h2 1 (by omega) (by omega), w1]
      exact al6 (P := fun i => i < j → R1 (n + 1) (mkH (fX2_copyFrom (x 0) (x (3 + j))) (x 1) (x 2) (x 3) (x 4) (x 5) (x 6) (x 7) (x 8) (x 9 0) (x 9 1) (nI j) (x 9 2 1) (x 9 2 2) (3 + i)) (fun a => v 1 (124 * i + a))) (fun h => k4 0 (by omega)) (fun h => k4 1 (by omega)) (fun h => k4 2 (by omega)) (fun h => k4 3 (by omega)) (fun h => k4 4 (by omega)) (fun h => k4 5 (by omega)) i (by omega) hi
    · rw [h3 6 (by omega), ew]; exact l3
    · rw [h2 4 (by omega) (by omega), ew]; exact l4
    · rw [h3 2 (by omega), ew]; rfl
    · rw [h3 0 (by omega), ew]; rfl
theorem op_restore {n : Nat} {x : HV} {v : SV} (R : RelH n x v) : OKF (n + 1) (fun _ => 1) (fX5_restore x) (fX6_restore v) := by
  have e1 : fX5_restore x = if x 9 2 1 = 0 then .inr (2, x) else .inl (mkH (fX2_copyFrom (fX5_saveState x 0) (fX5_saveState x 1)) (fX5_saveState x 1) (fX5_saveState x 2) (fX5_saveState x 3) (fX5_saveState x 4) (fX5_saveState x 5) (fX5_saveState x 6) (fX5_saveState x 7) (fX5_saveState x 8) (fX5_saveState x 9 0) (fX5_saveState x 9 1) (fX5_saveState x 9 2 0) (fX5_saveState x 9 2 1) (fX5_saveState x 9 2 2), fX2_copyFrom (fX5_saveState x 0) (fX5_saveState x 1) 8 2) := rfl
  have e2 : fX6_restore v = if v 8 1 = 0 then fX6_fails (thr0 v) 1 else (lpF 124 0 (bX6_restore_24 v) (fX6_save (thr0 v)), lpF 124 0 (bX6_restore_24 v) (fX6_save (thr0 v)) 0 83) := rfl
  rw [e1, e2, R.2.1.1]
  by_cases h : v 8 1 = 0
  · rw [if_pos h, if_pos h]
    exact OKF.out (v := v) R (by omega) rfl rfl rfl rfl rfl rfl rfl rfl (by decide)
  · rw [if_neg h, if_neg h]
    obtain ⟨y, ey⟩ : ∃ y, y = fX5_saveState x := ⟨_, rfl⟩
    obtain ⟨u, eu⟩ : ∃ u, u = fX6_save (thr0 v) := ⟨_, rfl⟩
    obtain ⟨S, y0, F, -⟩ := Rel_save (RelH_thr R) ey eu
    rw [← ey, ← eu]
    obtain ⟨z, ez⟩ : ∃ z, z = lpF 124 0 (bX6_restore_24 v) u := ⟨_, rfl⟩
    rw [← ez]
    obtain ⟨h1, h2, h3⟩ := restore_loop ez
    have hk : R1 n (y 1) (u 2) := S.2.1.2.resolve_left (by rw [F.2.2 1 (by omega) (by omega)]; exact h)
    have hc := R1.row h1 (R1.copy (t := y 0) hk)
    refine OKF.val (Rel_now S (by omega) (R1.mono (by omega) hc) (h2 1 (by omega) (by omega)) (h2 2 (by omega) (by omega)) (h2 4 (by omega) (by omega)) (h3 0 (by omega)) (h3 1 (by omega)) (h3 6 (by omega))) ?_ hc.1.2.2.2.2.2.1.2.2.1
    rw [h3 2 (by omega), F.2.2 2 (by omega) (by omega)]
    rfl
/-! those that don't throw: world and answer -/
def OKV (n : Nat) (F : HV × Int32) (u : SV × Int32) : Prop := RelH n F.1 u.1 ∧ F.2 = u.2
theorem op_keep {n : Nat} {x : HV} {v : SV} (R : RelH n x v) : OKV (n + 1) (fX5_keep x) (fX6_keep v) := by
  obtain ⟨q1, ⟨q2, q3⟩, ⟨k, k1, k2, k3, k4⟩, ⟨l, l1, l2, l3, l4⟩, q6⟩ := R.mono (Nat.le_succ n)
  obtain ⟨z, ez⟩ : ∃ z, z = lpF 124 0 (bX6_keep_7 v) (thr0 v) := ⟨_, rfl⟩
  have e2 : fX6_keep v = (mkM (z 0) (z 1) (z 2) (z 3) (z 4) (z 5) (z 6) (z 7) (z 8 0) 1 (z 8 2) (z 8 3) (z 8 4) (z 8 5) (z 8 6) (z 8 7) (z 8 8), z 0 83) := by rw [ez]; rfl
  have e1 : fX5_keep x = (mkH (x 0) (fX2_copyFrom (x 1) (x 0)) (x 2) (x 3) (x 4) (x 5) (x 6) (x 7) (x 8) (x 9 0) (x 9 1) (x 9 2 0) 1 (x 9 2 2), (x 0) 8 2) := rfl
  obtain ⟨h1, h2, h3, h4, h5⟩ := keep_loop ez
  rw [e1, e2]
  refine ⟨⟨?_, ⟨rfl, Or.inr ?_⟩, ⟨k, k1, k2, (h5 0 (by omega)).trans k3, fun j hj => ?_⟩, ⟨l, l1, l2, (h5 6 (by omega)).trans l3, ?_⟩, q6⟩, ?_⟩
  · show R1 (n + 1) (x 0) (z 0)
    rw [h2]; exact q1
  · exact R1.row h1 (R1.copy q1)
  · show R1 (n + 1) _ (fun i => z 1 (124 * j + i))
    rw [h3]
    exact al6 (P := fun j => j < k → R1 (n + 1) (mkH (x 0) (fX2_copyFrom (x 1) (x 0)) (x 2) (x 3) (x 4) (x 5) (x 6) (x 7) (x 8) (x 9 0) (x 9 1) (x 9 2 0) 1 (x 9 2 2) (3 + j)) (fun a => v 1 (124 * j + a))) (k4 0) (k4 1) (k4 2) (k4 3) (k4 4) (k4 5) j (by omega) hj
  · show ∀ i, i < l → x 9 0 i = z 4 i ∧ _
    rw [h4]; exact l4
  · show (x 0) 8 2 = z 0 83
    rw [h2]; exact q1.1.2.2.2.2.2.1.2.2.1
theorem op_clearBuffer {n : Nat} {x : HV} {v : SV} (R : RelH n x v) : OKV (n + 1) (fX5_clearBuffer x) (fX6_clearBuffer v) := by
  obtain ⟨q1, q2, ⟨k, k1, k2, k3, k4⟩, ⟨l, l1, l2, l3, l4⟩, q6⟩ := R.mono (Nat.le_succ n)
  refine ⟨⟨q1, q2, ⟨k, k1, k2, k3, fun j hj => ?_⟩, ⟨0, by omega, nI_0.symm, nI_0.symm, fun i hi => absurd hi (Nat.not_lt_zero i)⟩, q6⟩, l2.trans l3.symm⟩
  exact al6 (P := fun j => j < k → R1 (n + 1) (mkH (x 0) (x 1) (x 2) (x 3) (x 4) (x 5) (x 6) (x 7) (x 8) (x 9 0) (x 9 1) (x 9 2 0) (x 9 2 1) 0 (3 + j)) (fun a => v 1 (124 * j + a))) (k4 0) (k4 1) (k4 2) (k4 3) (k4 4) (k4 5) j (by omega) hj
/-! looks -/
theorem told_eq {s w : SV} {B b : Nat} (R : RelS s (w 0)) (G : Gd B (w 0)) (hb : b < 12) {x2 : Int32} (h2 : 0 ≤ x2) : fX3_sign s (nI b) x2 = fX6_toldAt w b x2 := by
  obtain ⟨i, hi, rfl⟩ := nI_of (x := x2) (Int32.not_lt.mpr h2)
  obtain ⟨g1, g2⟩ := G.2.2.2.1
  obtain ⟨p1, p2⟩ := G.2.2.2.2.1 b hb
  unfold fX3_sign fX6_toldAt
  rw [if_neg (nI_pos (by omega)), R.2.2.2.2.2.1.2.2.2.2.2.2]
  by_cases q : w 0 87 ≤ nI b
  · rw [if_pos q, if_pos q]
  · rw [if_neg q, if_neg q, if_neg (nI_pos hi)]
    have hb2 : b < aN (w 0) 87 := Nat.not_le.mp (fun z => q (by rw [g1]; exact nI_le z (by omega)))
    obtain ⟨a1, a2, a3⟩ := R.2.2.2.2.2.2.1 b hb2 hb
    have t1 : fX5_at 12 (s 3) (nI b) = w 0 (88 + 3 * b) := (atN (s 3) hb (by omega)).trans a1
    have t2 : fX5_at 12 (s 4) (nI b) = w 0 (88 + 3 * b + 1) := (atN (s 4) hb (by omega)).trans (a2.trans (by rw [show 89 + 3 * b = 88 + 3 * b + 1 by omega]))
    have t3 : fX5_at 12 (s 5) (nI b) = nI (aN (w 0) (90 + 3 * b)) := (atN (s 5) hb (by omega)).trans (a3.trans p1)
    have t4 : w 0 (88 + 3 * b + 2) = nI (aN (w 0) (90 + 3 * b)) := by rw [show 88 + 3 * b + 2 = 90 + 3 * b by omega]; exact p1
    have tl : fX3_textLength s (nI b) = nI (24 + (aN (w 0) (90 + 3 * b) - 1)) := by
      unfold fX3_textLength
      rw [t3]
      by_cases z : 1 ≤ aN (w 0) (90 + 3 * b)
      · rw [show nI (aN (w 0) (90 + 3 * b)) - 1 = nI (aN (w 0) (90 + 3 * b) - 1) from pk_sub (b := 1) z]
        by_cases z2 : 0 < aN (w 0) (90 + 3 * b) - 1
        · rw [if_pos (show (0 : Int32) < nI _ from by rw [← nI_0]; exact nI_lt z2 (by omega))]
          exact nI_add 24 _
        · rw [if_neg (show ¬ (0 : Int32) < nI _ from by rw [← nI_0]; exact nI_nlt (by omega) (by omega)), show aN (w 0) (90 + 3 * b) - 1 = 0 by omega]
          rfl
      · rw [show aN (w 0) (90 + 3 * b) = 0 by omega]
        rfl
    rw [tl, t1, t2, t4, bit_eq, bit_eq]
    by_cases y : i < 24
    · rw [if_pos (nI_lt (by omega) (by omega)), if_pos (show nI i < 24 from nI_lt (b := 24) y (by omega)), if_pos (show nI i < 24 from nI_lt (b := 24) y (by omega))]
    · have y' : ¬ nI i < 24 := nI_nlt (b := 24) (by omega) hi
      rw [if_neg y', if_neg y']
      by_cases z : i < 24 + (aN (w 0) (90 + 3 * b) - 1)
      · rw [if_pos (nI_lt z (by omega)), if_pos]
        rw [show (24 : Int32) + nI (aN (w 0) (90 + 3 * b)) = nI (24 + aN (w 0) (90 + 3 * b)) from nI_add 24 _, show nI (24 + aN (w 0) (90 + 3 * b)) - 2 = nI (24 + aN (w 0) (90 + 3 * b) - 2) from pk_sub (b := 2) (by omega)]
        exact nI_le (by omega) (by omega)
      · rw [if_neg (nI_nlt (by omega) hi), if_neg]
        rw [show (24 : Int32) + nI (aN (w 0) (90 + 3 * b)) = nI (24 + aN (w 0) (90 + 3 * b)) from nI_add 24 _, show nI (24 + aN (w 0) (90 + 3 * b)) - 2 = nI (24 + aN (w 0) (90 + 3 * b) - 2) from pk_sub (b := 2) (by omega)]
        exact nI_ge (by omega) hi
theorem kept_eq {s w : SV} {B b k : Nat} (R : RelS s (w 0)) (G : Gd B (w 0)) (hb : b < 12) (hk : k < 3) : fX3_numberOfLine s (nI b) (nI k) = if w 0 87 ≤ nI b then (-1) else w 0 (88 + 3 * b + k) := by
  obtain ⟨g1, g2⟩ := G.2.2.2.1
  unfold fX3_numberOfLine
  rw [if_neg (nI_pos (by omega)), R.2.2.2.2.2.1.2.2.2.2.2.2]
  by_cases q : w 0 87 ≤ nI b
  · rw [if_neg (Int32.not_lt.mpr q), if_pos q]
  · have hb2 : b < aN (w 0) 87 := Nat.not_le.mp (fun z => q (by rw [g1]; exact nI_le z (by omega)))
    rw [if_pos (Int32.not_le.mp q), if_neg q]
    obtain ⟨a1, a2, a3⟩ := R.2.2.2.2.2.2.1 b hb2 hb
    match k, hk with
    | 0, _ => exact (if_pos rfl).trans ((atN (s 3) hb (by omega)).trans a1)
    | 1, _ => exact (if_neg (by decide)).trans ((if_pos rfl).trans ((atN (s 4) hb (by omega)).trans (a2.trans (by rw [show 89 + 3 * b = 88 + 3 * b + 1 by omega]))))
    | 2, _ => exact (if_neg (by decide)).trans ((if_neg (by decide)).trans ((atN (s 5) hb (by omega)).trans (a3.trans (by rw [show 90 + 3 * b = 88 + 3 * b + 2 by omega]))))
    | k + 3, h => exact absurd h (by omega)
theorem op_told {n : Nat} {x : HV} {v : SV} (R : RelH n x v) (x1 x2 : Int32) : OKF (n + 1) (fun _ => 1) (fX5_told x x1 x2) (fX6_told v x1 x2) := by
  have e1 : fX5_told x x1 x2 = if fX5_isWithin x1 0 11 = 0 then .inr (0, x) else if 0 ≤ x2 then .inl (x, fX3_sign (x 0) x1 x2) else .inr (0, x) := rfl
  have e2 : fX6_told v x1 x2 = if fX5_isWithin x1 0 11 = 0 then fX6_fails (thr0 v) 1 else if x2 < 0 then fX6_fails (thr0 v) 1 else (thr0 v, fX6_toldAt (thr0 v) x1.toNatClampNeg x2) := rfl
  rw [e1, e2]
  rcases iw_cases x1 0 11 (by omega) (by omega) with h | ⟨b, -, hb, rfl, h⟩
  · have h : fX5_isWithin x1 0 11 = 0 := h
    rw [h, if_pos rfl, if_pos rfl]
    exact OKF.out (v := v) R (by omega) rfl rfl rfl rfl rfl rfl rfl rfl (by decide)
  · have h : fX5_isWithin (nI b) 0 11 = 1 := h
    rw [h, if_neg one_ne, if_neg one_ne]
    by_cases g : 0 ≤ x2
    · rw [if_pos g, if_neg (Int32.not_lt.mpr g), nI_clamp (by omega)]
      exact OKF.val (RelH_thr (R.mono (by omega))) rfl (told_eq (w := thr0 v) R.1.1 R.1.2 (by omega) g)
    · rw [if_neg g, if_pos (Int32.not_le.mp g)]
      exact OKF.out (v := v) R (by omega) rfl rfl rfl rfl rfl rfl rfl rfl (by decide)
theorem op_kept {n : Nat} {x : HV} {v : SV} (R : RelH n x v) (x1 x2 : Int32) : OKF (n + 1) (fun _ => 1) (fX5_kept x x1 x2) (fX6_kept v x1 x2) := by
  have e1 : fX5_kept x x1 x2 = if fX5_isWithin x1 0 11 = 0 then .inr (0, x) else if fX5_isWithin x2 0 2 = 0 then .inr (0, x) else .inl (x, fX3_numberOfLine (x 0) x1 x2) := rfl
  have e2 : fX6_kept v x1 x2 = if fX5_isWithin x1 0 11 = 0 then fX6_fails (thr0 v) 1 else if fX5_isWithin x2 0 2 = 0 then fX6_fails (thr0 v) 1 else if v 0 87 ≤ x1 then (thr0 v, -1) else (thr0 v, v 0 (88 + 3 * x1.toNatClampNeg + x2.toNatClampNeg)) := rfl
  rw [e1, e2]
  rcases iw_cases x1 0 11 (by omega) (by omega) with h | ⟨b, -, hb, rfl, h⟩
  · have h : fX5_isWithin x1 0 11 = 0 := h
    rw [h, if_pos rfl, if_pos rfl]
    exact OKF.out (v := v) R (by omega) rfl rfl rfl rfl rfl rfl rfl rfl (by decide)
  · have h : fX5_isWithin (nI b) 0 11 = 1 := h
    rw [h, if_neg one_ne, if_neg one_ne]
    rcases iw_cases x2 0 2 (by omega) (by omega) with g | ⟨k, -, hk, rfl, g⟩
    · have g : fX5_isWithin x2 0 2 = 0 := g
      rw [g, if_pos rfl, if_pos rfl]
      exact OKF.out (v := v) R (by omega) rfl rfl rfl rfl rfl rfl rfl rfl (by decide)
    · have g : fX5_isWithin (nI k) 0 2 = 1 := g
      rw [g, if_neg one_ne, if_neg one_ne, nI_clamp (by omega), nI_clamp (by omega)]
      have e := kept_eq (k := k) R.1.1 R.1.2 (show b < 12 by omega) (by omega)
      by_cases q : v 0 87 ≤ nI b
      · rw [if_pos q] at e ⊢
        exact OKF.val (RelH_thr (R.mono (by omega))) rfl e
      · rw [if_neg q] at e ⊢
        exact OKF.val (RelH_thr (R.mono (by omega))) rfl e
theorem op_dot {n : Nat} {x : HV} {v : SV} (R : RelH n x v) (x1 x2 : Int32) : OKF (n + 1) (fun k => if k = 1 then 1 else 2) (fX5_dot x x1 x2) (fX6_dot v x1 x2) := by
  have e1 : fX5_dot x x1 x2 = if fX5_isWithin x1 0 23 = 0 then .inr (1, x) else if fX5_isWithin x2 0 6 = 0 then .inr (0, x) else .inl (x, fX2_numberOfDot (x 0) x1 x2) := rfl
  have e2 : fX6_dot v x1 x2 = if fX5_isWithin x1 0 23 = 0 then fX6_fails (thr0 v) 1 else if fX5_isWithin x2 0 6 = 0 then fX6_fails (thr0 v) 2 else (thr0 v, fX6_ofDot (thr0 v) x1.toNatClampNeg x2) := rfl
  rw [e1, e2]
  rcases iw_cases x1 0 23 (by omega) (by omega) with h | ⟨b, -, hb, rfl, h⟩
  · have h : fX5_isWithin x1 0 23 = 0 := h
    rw [h, if_pos rfl, if_pos rfl]
    exact OKF.out (v := v) R (by omega) rfl rfl rfl rfl rfl rfl rfl rfl (by decide)
  · have h : fX5_isWithin (nI b) 0 23 = 1 := h
    rw [h, if_neg one_ne, if_neg one_ne]
    rcases iw_cases x2 0 6 (by omega) (by omega) with g | ⟨k, -, hk, rfl, g⟩
    · have g : fX5_isWithin x2 0 6 = 0 := g
      rw [g, if_pos rfl, if_pos rfl]
      exact OKF.out (v := v) R (by omega) rfl rfl rfl rfl rfl rfl rfl rfl (by decide)
    · have g : fX5_isWithin (nI k) 0 6 = 1 := g
      rw [g, if_neg one_ne, if_neg one_ne, nI_clamp (by omega)]
      exact OKF.val (RelH_thr (R.mono (by omega))) rfl (ofDot_eq (w := thr0 v) R.1.2 R.1.1 (by omega) _)
theorem op_coolIn {n : Nat} {x : HV} {v : SV} (R : RelH n x v) (x1 : Int32) : OKF (n + 1) (fun _ => 1) (fX5_coolIn x x1) (fX6_coolIn v x1) := by
  have e1 : fX5_coolIn x x1 = if fX5_isWithin x1 0 900 = 0 then .inr (0, x) else .inl (x, fX2_timeUntilCool (x 0) x1) := rfl
  have e2 : fX6_coolIn v x1 = if fX5_isWithin x1 0 900 = 0 then fX6_fails (thr0 v) 1 else (thr0 v, fX6_timeToCool (thr0 v) x1) := rfl
  rw [e1, e2]
  rcases iw_cases x1 0 900 (by omega) (by omega) with h | ⟨b, -, hb, rfl, h⟩
  · have h : fX5_isWithin x1 0 900 = 0 := h
    rw [h, if_pos rfl, if_pos rfl]
    exact OKF.out (v := v) R (by omega) rfl rfl rfl rfl rfl rfl rfl rfl (by decide)
  · have h : fX5_isWithin (nI b) 0 900 = 1 := h
    rw [h, if_neg one_ne, if_neg one_ne]
    exact OKF.val (RelH_thr (R.mono (by omega))) rfl (coolIn_eq (w := thr0 v) R.1.2 R.1.1 hb)
theorem op_darkFrom {n : Nat} {x : HV} {v : SV} (R : RelH n x v) (x1 : Int32) : OKF (n + 1) (fun _ => 1) (fX5_darkFrom x x1) (fX6_darkFrom v x1) := by
  have e1 : fX5_darkFrom x x1 = if fX5_isWithin x1 0 23 = 0 then .inr (1, x) else .inl (x, fX2_leastDarkSetting (x 0) x1) := rfl
  have e2 : fX6_darkFrom v x1 = if fX5_isWithin x1 0 23 = 0 then fX6_fails (thr0 v) 1 else (thr0 v, fX6_leastDark (thr0 v) x1.toNatClampNeg) := rfl
  rw [e1, e2]
  rcases iw_cases x1 0 23 (by omega) (by omega) with h | ⟨b, -, hb, rfl, h⟩
  · have h : fX5_isWithin x1 0 23 = 0 := h
    rw [h, if_pos rfl, if_pos rfl]
    exact OKF.out (v := v) R (by omega) rfl rfl rfl rfl rfl rfl rfl rfl (by decide)
  · have h : fX5_isWithin (nI b) 0 23 = 1 := h
    rw [h, if_neg one_ne, if_neg one_ne, nI_clamp (by omega)]
    exact OKF.val (RelH_thr (R.mono (by omega))) rfl (darkFrom_eq (w := thr0 v) R.1.2 R.1.1 (by omega))
theorem count_eq {x : HV} {w : SV} {B k : Nat} (R : RelS (x 0) (w 0)) (G : Gd B (w 0)) (h9 : x 9 2 0 = w 8 0) (hk : k < 19) : fX5_counted x (nI k) = fX6_number w (nI k) := by
  obtain ⟨R7, R8, R9, R10, R11, R12, R13⟩ := R.2.2.2.2.2.1
  match k, hk with
  | 0, _ => exact R8
  | 1, _ => exact R9
  | 2, _ => exact R10
  | 3, _ => exact R11
  | 4, _ => exact R.2.2.2.2.2.2.2.1.trans (sum_6 w 26).symm
  | 5, _ => exact (dotByDot_2 R).trans (sum_6 w 26).symm
  | 6, _ => exact R.2.2.2.2.2.2.2.2.trans (sum_6 w 50).symm
  | 7, _ => exact (hottestDot_2 G R.1).trans (hottestNow_6 G).symm
  | 8, _ => exact R12
  | 9, _ => exact R7
  | 10, _ => exact R13
  | 11, _ => exact (at7 (x 0 2) 0 (by omega)).trans (R.2.2.2.2.1 0 (by omega))
  | 12, _ => exact (at7 (x 0 2) 1 (by omega)).trans (R.2.2.2.2.1 1 (by omega))
  | 13, _ => exact (at7 (x 0 2) 2 (by omega)).trans (R.2.2.2.2.1 2 (by omega))
  | 14, _ => exact (at7 (x 0 2) 3 (by omega)).trans (R.2.2.2.2.1 3 (by omega))
  | 15, _ => exact (at7 (x 0 2) 4 (by omega)).trans (R.2.2.2.2.1 4 (by omega))
  | 16, _ => exact (at7 (x 0 2) 5 (by omega)).trans (R.2.2.2.2.1 5 (by omega))
  | 17, _ => exact (at7 (x 0 2) 6 (by omega)).trans (R.2.2.2.2.1 6 (by omega))
  | 18, _ => exact h9
  | k + 19, h => exact absurd h (by omega)
theorem RelH.cnt {n : Nat} {x : HV} {v : SV} (R : RelH n x v) : x 9 2 0 = v 8 0 := by
  obtain ⟨-, -, ⟨k, k1, k2, k3, k4⟩, -⟩ := R
  rw [k2, k3]
theorem op_count {n : Nat} {x : HV} {v : SV} (R : RelH n x v) (x1 : Int32) : OKF (n + 1) (fun _ => 1) (fX5_count x x1) (fX6_count v x1) := by
  have e1 : fX5_count x x1 = if fX5_isWithin x1 0 18 = 0 then .inr (0, x) else .inl (x, fX5_counted x x1) := rfl
  have e2 : fX6_count v x1 = if fX5_isWithin x1 0 18 = 0 then fX6_fails (thr0 v) 1 else (thr0 v, fX6_number (thr0 v) x1) := rfl
  rw [e1, e2]
  rcases iw_cases x1 0 18 (by omega) (by omega) with h | ⟨b, -, hb, rfl, h⟩
  · have h : fX5_isWithin x1 0 18 = 0 := h
    rw [h, if_pos rfl, if_pos rfl]
    exact OKF.out (v := v) R (by omega) rfl rfl rfl rfl rfl rfl rfl rfl (by decide)
  · have h : fX5_isWithin (nI b) 0 18 = 1 := h
    rw [h, if_neg one_ne, if_neg one_ne]
    exact OKF.val (RelH_thr (R.mono (by omega))) rfl (count_eq (w := thr0 v) R.1.1 R.1.2 R.cnt (by omega))
