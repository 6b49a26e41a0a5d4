/-! line, lines, time, paper, settings: both sides -/
def FRL (w u : SV) : Prop := (∀ j, 1 ≤ j → j < 8 → u j = w j) ∧ ∀ j, j < 9 → j ≠ 3 → j ≠ 4 → j ≠ 5 → u 8 j = w 8 j
theorem FRL.rf (w : SV) : FRL w w := ⟨fun _ _ _ => rfl, fun _ _ _ _ _ => rfl⟩
theorem FRL.tr {w u z : SV} (h : FRL w u) (h2 : FRL u z) : FRL w z := ⟨fun j a b => (h2.1 j a b).trans (h.1 j a b), fun j a b c d => (h2.2 j a b c d).trans (h.2 j a b c d)⟩
theorem lpF_2 {σ τ : Type} (P : Nat → σ → τ → Prop) {b : Nat → σ → σ} {b' : Nat → τ → τ} (n : Nat) (s : σ) (t : τ) (hs : ∀ d s t, d < n → P d s t → P (d + 1) (b d s) (b' d t)) (h0 : P 0 s t) : P n (lpF n 0 b s) (lpF n 0 b' t) := by
  have key : ∀ (n i : Nat) (s : σ) (t : τ), (∀ d s t, i ≤ d → d < i + n → P d s t → P (d + 1) (b d s) (b' d t)) → P i s t → P (i + n) (lpF n i b s) (lpF n i b' t) := by
    intro n
    induction n with
    | zero => exact fun i s t _ h => h
    | succ n ih =>
      intro i s t hs h
      rw [show i + (n + 1) = i + 1 + n by omega]
      exact ih (i + 1) _ _ (fun d s t h1 h2 h3 => hs d s t (by omega) (by omega) h3) (hs i s t (Nat.le_refl _) (by omega) h)
  have h := key n 0 s t (fun d s t _ h2 h3 => hs d s t (by omega) h3) h0
  rw [Nat.zero_add] at h
  exact h
theorem line_eq {s w : SV} {X B : Nat} (R : RelS s (w 0)) (G : Gd B (w 0)) (hX : X < 2 ^ 24) (hB : B + 1 < 2 ^ 30) {a u : SV × Int32} (ha : a = fX2_printLine s (nI X)) (hu : u = fX6_printLine w (nI X)) : RelS a.1 (u.1 0) ∧ Gd (B + 1) (u.1 0) ∧ FRL w u.1 ∧ a.2 = u.2 := by
  obtain ⟨p1, p2⟩ := PL2 G R hX ha
  obtain ⟨q1, q2, q3, q4, q5, q6⟩ := PL6 G hX hu
  exact ⟨RelS_row q1 p1, Gd_row q1 (Gd_nxt G hX hB), ⟨q5, q6⟩, p2.trans q2.symm⟩
theorem lines_eq {s w : SV} {X B t : Nat} (R : RelS s (w 0)) (G : Gd B (w 0)) (hX : X < 2 ^ 24) (ht : t < 2 ^ 29) (hB : B + t < 2 ^ 30) {a : SV} {u : SV × Int32} (ha : a = fX2_printLines s (nI X) (nI t)) (hu : u = fX6_printSome w (nI X) (nI t)) : RelS a (u.1 0) ∧ Gd (B + t) (u.1 0) ∧ FRL w u.1 ∧ a 8 6 - s 8 6 = u.2 := by
  have key := lpF_2 (fun i (a : SV) (u : SV) => RelS a (u 0) ∧ Gd (B + i) (u 0) ∧ FRL w u) (b := bX2_printLines_2 s (nI X) (nI t)) (b' := bX6_printSome_10 w (nI X) (nI t) (fX6_sum w 50)) t s w (fun d a u hd h => by
    obtain ⟨h1, h2, h3⟩ := h
    obtain ⟨k1, k2, k3, -⟩ := line_eq h1 h2 hX (by omega) rfl rfl
    exact ⟨k1, k2, h3.tr k3⟩) ⟨R, G, FRL.rf w⟩
  have e1 : a = lpF t 0 (bX2_printLines_2 s (nI X) (nI t)) s := by
    rw [ha]
    unfold fX2_printLines tX2_printLines_2
    rw [nI_clamp (by omega)]
  have e2 : u = (lpF t 0 (bX6_printSome_10 w (nI X) (nI t) (fX6_sum w 50)) w, fX6_sum (lpF t 0 (bX6_printSome_10 w (nI X) (nI t) (fX6_sum w 50)) w) 50 - fX6_sum w 50) := by
    rw [hu]
    unfold fX6_printSome tX6_printSome_10
    rw [nI_clamp (by omega)]
  rw [← e1] at key
  obtain ⟨z, ez⟩ : ∃ z, z = lpF t 0 (bX6_printSome_10 w (nI X) (nI t) (fX6_sum w 50)) w := ⟨_, rfl⟩
  rw [← ez] at key e2
  obtain ⟨k1, k2, k3⟩ := key
  rw [e2]
  refine ⟨k1, k2, k3, ?_⟩
  show a 8 6 - s 8 6 = fX6_sum z 50 - fX6_sum w 50
  rw [sum_6, sum_6, k1.2.2.2.2.2.2.2.2, R.2.2.2.2.2.2.2.2]
theorem time_eq {s w : SV} {B t : Nat} (R : RelS s (w 0)) (G : Gd B (w 0)) (ht : t < 2 ^ 30) {a u : SV} (ha : a = fX2_passTime s (nI t)) (hu : u = fX6_pass w (nI t)) : RelS a (u 0) ∧ Gd B (u 0) ∧ FRL w u := by
  obtain ⟨g1, g2, g3, g4, g5, g6⟩ := G
  obtain ⟨-, ⟨h75, b1, b2⟩, -⟩ := SI_n g1
  obtain ⟨h, hh⟩ : ∃ h : Nat → Nat, h = fun d => if d < 24 then aN (w 0) d else 0 := ⟨_, rfl⟩
  have hl : ∀ d, h d ≤ 900 := fun d => by
    rw [hh]
    show (if d < 24 then aN (w 0) d else 0) ≤ 900
    split
    · rename_i q
      exact (g2 d q).2
    · omega
  have h0 : ∀ d, d < 24 → w 0 d = nI (h d) := fun d hd => by
    rw [hh]
    show w 0 d = nI (if d < 24 then aN (w 0) d else 0)
    rw [if_pos hd]
    exact (g2 d hd).1
  have R' := RelS_pass R (c := aN (w 0) 75) (t := t) (h := h) (by omega) (by omega) ht (fun d => by have := hl d; omega) h75 h0
  have T := pu_pass (v := w) (c := aN (w 0) 75) (t := t) (h := h) (by omega) (by omega) ht (fun d => by have := hl d; omega) h75 h0
  rw [← hu] at R' T
  rw [← ha] at R'
  obtain ⟨t1, t2, t3⟩ := T
  have ho : ∀ k, 24 ≤ k → k ≠ 82 → u 0 k = w 0 k := fun k k1 k2 => by rw [t1, if_neg (by omega), if_neg k2]
  refine ⟨R', ⟨SI_congr (fun k k1 k2 => ho k (by omega) (by omega)) g1, fun d hd => ?_, ?_, ?_, fun j hj => ?_, fun d hd => ?_⟩, t2, fun j j1 _ _ _ => t3 j j1⟩
  · exact aN_v (by rw [t1, if_pos hd]) (Nat.le_trans (coolN_le _ _ _) (hl d)) (by omega)
  · rw [aN_e (ho 86 (by omega) (by omega)), ho 86 (by omega) (by omega)]; exact g3
  · rw [aN_e (ho 87 (by omega) (by omega)), ho 87 (by omega) (by omega)]; exact g4
  · rw [aN_e (ho (90 + 3 * j) (by omega) (by omega)), ho (90 + 3 * j) (by omega) (by omega)]; exact g5 j hj
  · rw [aN_e (ho (26 + d) (by omega) (by omega)), ho (26 + d) (by omega) (by omega), aN_e (ho (50 + d) (by omega) (by omega)), ho (50 + d) (by omega) (by omega)]; exact g6 d hd
theorem paper_eq {s w : SV} {B p : Nat} (R : RelS s (w 0)) (G : Gd B (w 0)) (hp : p ≤ 2) {a : SV} {u : SV × Int32} (ha : a = fX2_changePaper s (nI p)) (hu : u = fX6_paperNow w (nI p)) : RelS a (u.1 0) ∧ Gd B (u.1 0) ∧ FRL w u.1 ∧ s 8 0 = u.2 := by
  obtain ⟨g1, g2, g3, g4, g5, g6⟩ := G
  obtain ⟨w1, ew⟩ : ∃ z, z = mkM (upd (w 0) 81 (nI p)) (w 1) (w 2) (w 3) (w 4) (w 5) (w 6) (w 7) (w 8 0) (w 8 1) (w 8 2) (w 8 3) (w 8 4) (w 8 5) (w 8 6) (w 8 7) (w 8 8) := ⟨_, rfl⟩
  have f1 : FRL w w1 := by
    rw [ew]
    exact ⟨al7 rfl rfl rfl rfl rfl rfl rfl, al9 (fun _ _ _ => rfl) (fun _ _ _ => rfl) (fun _ _ _ => rfl) (fun _ _ _ => rfl) (fun _ _ _ => rfl) (fun _ _ _ => rfl) (fun _ _ _ => rfl) (fun _ _ _ => rfl) (fun _ _ _ => rfl)⟩
  have e0 : w1 0 = upd (w 0) 81 (nI p) := by rw [ew]; rfl
  have key := lpF_0 (fun n (z : SV) => (∀ j, j < n → z 0 (88 + j) = 0) ∧ (∀ j, j < 88 → z 0 j = w1 0 j) ∧ FRL w1 z) (b := bX6_paperNow_18 w (nI p) (w 0 87)) 36 w1 (fun d z hd h => by
    obtain ⟨h1, h2, h3, h4⟩ := h
    refine ⟨fun j hj => ?_, fun j hj => ?_, al7 (h3 1 (by omega) (by omega)) (h3 2 (by omega) (by omega)) (h3 3 (by omega) (by omega)) (h3 4 (by omega) (by omega)) (h3 5 (by omega) (by omega)) (h3 6 (by omega) (by omega)) (h3 7 (by omega) (by omega)), al9 (h4 0 (by omega)) (h4 1 (by omega)) (h4 2 (by omega)) (h4 3 (by omega)) (h4 4 (by omega)) (h4 5 (by omega)) (h4 6 (by omega)) (h4 7 (by omega)) (h4 8 (by omega))⟩
    · show upd (z 0) (88 + d) 0 (88 + j) = 0
      by_cases q : j = d
      · rw [q, pk_us]
      · rw [pk_un (by omega), h1 j (by omega)]
    · show upd (z 0) (88 + d) 0 j = _
      rw [pk_un (by omega), h2 j hj]) ⟨fun j hj => absurd hj (Nat.not_lt_zero j), fun _ _ => rfl, FRL.rf w1⟩
  obtain ⟨z, ez⟩ : ∃ z, z = lpF 36 0 (bX6_paperNow_18 w (nI p) (w 0 87)) w1 := ⟨_, rfl⟩
  rw [← ez] at key
  obtain ⟨k1, k2, k3, k4⟩ := key
  have e : u = (mkM (upd (z 0) 87 0) (z 1) (z 2) (z 3) (z 4) (z 5) (z 6) (z 7) (z 8 0) (z 8 1) (z 8 2) (z 8 3) (z 8 4) (z 8 5) (z 8 6) (z 8 7) (z 8 8), w 0 87) := by
    rw [hu]
    unfold fX6_paperNow
    rw [← ew, ← ez]
    rfl
  obtain ⟨r, er⟩ : ∃ r, r = upd (z 0) 87 0 := ⟨_, rfl⟩
  have r87 : r 87 = nI 0 := by rw [er, pk_us]; exact nI_0.symm
  have r81 : r 81 = nI p := by rw [er, pk_un (by omega), k2 81 (by omega), e0, pk_us]
  have ro : ∀ k, k < 87 → k ≠ 81 → r k = w 0 k := fun k h1 h2 => by rw [er, pk_un (by omega), k2 k (by omega), e0, pk_un h2]
  have rz : ∀ j, j < 36 → r (88 + j) = nI 0 := fun j hj => by rw [er, pk_un (by omega), k1 j hj]; exact nI_0.symm
  rw [e, ← er]
  refine ⟨?_, ⟨?_, fun d hd => ?_, ?_, aN_v r87 (Nat.zero_le _) (by omega), fun j hj => ?_, fun d hd => ?_⟩, f1.tr ⟨al7 (k3 1 (by omega) (by omega)) (k3 2 (by omega) (by omega)) (k3 3 (by omega) (by omega)) (k3 4 (by omega) (by omega)) (k3 5 (by omega) (by omega)) (k3 6 (by omega) (by omega)) (k3 7 (by omega) (by omega)), al9 (k4 0 (by omega)) (k4 1 (by omega)) (k4 2 (by omega)) (k4 3 (by omega)) (k4 4 (by omega)) (k4 5 (by omega)) (k4 6 (by omega)) (k4 7 (by omega)) (k4 8 (by omega))⟩, R.2.2.2.2.2.1.2.2.2.2.2.2⟩
  · show RelS a r
    obtain ⟨R1, ⟨R2, R3⟩, R4, R5, R6, ⟨R7, R8, R9, R10, R11, R12, R13⟩, R14, R15, R16⟩ := R
    rw [ha]
    refine ⟨fun d hd => ?_, ⟨?_, ?_⟩, fun d hd => ?_, fun d hd => ?_, fun i hi => ?_, ⟨?_, ?_, ?_, ?_, ?_, ?_, ?_⟩, fun j j1 j2 => ?_, ?_, ?_⟩
    · rw [ro d (by omega) (by omega)]; exact R1 d hd
    · rw [ro 24 (by omega) (by omega)]; exact R2
    · rw [ro 25 (by omega) (by omega)]; exact R3
    · rw [ro (26 + d) (by omega) (by omega)]; exact R4 d hd
    · rw [ro (50 + d) (by omega) (by omega)]; exact R5 d hd
    · rw [ro (74 + i) (by omega) (by omega)]; exact R6 i hi
    · exact r81.symm
    · rw [ro 82 (by omega) (by omega)]; exact R8
    · rw [ro 83 (by omega) (by omega)]; exact R9
    · rw [ro 84 (by omega) (by omega)]; exact R10
    · rw [ro 85 (by omega) (by omega)]; exact R11
    · rw [ro 86 (by omega) (by omega)]; exact R12
    · rw [r87]; exact nI_0.symm
    · rw [r87, nI_clamp (by omega)] at j1
      exact absurd j1 (Nat.not_lt_zero j)
    · exact R15.trans (smF_congr 24 (fun d hd => (ro (26 + d) (by omega) (by omega)).symm))
    · exact R16.trans (smF_congr 24 (fun d hd => (ro (50 + d) (by omega) (by omega)).symm))
  · show SI r
    unfold SI at g1 ⊢
    rw [ro 74 (by omega) (by omega), ro 75 (by omega) (by omega), ro 76 (by omega) (by omega), ro 77 (by omega) (by omega), ro 78 (by omega) (by omega), ro 79 (by omega) (by omega), ro 80 (by omega) (by omega)]
    exact ⟨g1.1, g1.2.1, g1.2.2.1, g1.2.2.2.1, g1.2.2.2.2.1, g1.2.2.2.2.2.1, g1.2.2.2.2.2.2.1, p, hp, r81⟩
  · show r d = nI (aN r d) ∧ aN r d ≤ 900
    rw [aN_e (ro d (by omega) (by omega)), ro d (by omega) (by omega)]; exact g2 d hd
  · show r 86 = nI (aN r 86) ∧ aN r 86 ≤ 900
    rw [aN_e (ro 86 (by omega) (by omega)), ro 86 (by omega) (by omega)]; exact g3
  · show r (90 + 3 * j) = nI (aN r (90 + 3 * j)) ∧ aN r (90 + 3 * j) ≤ 24
    refine aN_v (n := 0) ?_ (Nat.zero_le _) (by omega)
    rw [show 90 + 3 * j = 88 + (2 + 3 * j) by omega]
    exact rz (2 + 3 * j) (by omega)
  · show r (26 + d) = nI (aN r (26 + d)) ∧ r (50 + d) = nI (aN r (50 + d)) ∧ aN r (50 + d) ≤ aN r (26 + d) ∧ aN r (26 + d) ≤ B
    rw [aN_e (ro (26 + d) (by omega) (by omega)), ro (26 + d) (by omega) (by omega), aN_e (ro (50 + d) (by omega) (by omega)), ro (50 + d) (by omega) (by omega)]; exact g6 d hd
theorem put_v (n : Nat) (f : Nat → Int32) {i : Nat} (hi : i < n) (hn : n < 2 ^ 31) (z : Int32) : fX5_put n f (nI i) z = upd f i z := by
  unfold fX5_put
  rw [if_neg (nI_pos (by omega)), if_neg (nI_ge hi hn), nI_clamp (by omega)]
theorem RelS_set {v : SV} {r : Nat → Int32} {i : Nat} (R : RelS v r) (hi : i < 7) (z : Int32) : RelS (fX2_changeSetting v (nI i) z) (upd r (74 + i) z) := by
  obtain ⟨R1, ⟨R2, R3⟩, R4, R5, R6, ⟨R7, R8, R9, R10, R11, R12, R13⟩, R14, R15, R16⟩ := R
  have ro : ∀ k, k ≠ 74 + i → upd r (74 + i) z k = r k := fun k h => pk_un h
  unfold fX2_changeSetting
  rw [put_v 7 (v 2) hi (by omega)]
  refine ⟨fun d hd => ?_, ⟨?_, ?_⟩, fun d hd => ?_, fun d hd => ?_, fun j hj => ?_, ⟨?_, ?_, ?_, ?_, ?_, ?_, ?_⟩, fun j j1 j2 => ?_, ?_, ?_⟩
  · rw [ro d (by omega)]; exact R1 d hd
  · rw [ro 24 (by omega)]; exact R2
  · rw [ro 25 (by omega)]; exact R3
  · rw [ro (26 + d) (by omega)]; exact R4 d hd
  · rw [ro (50 + d) (by omega)]; exact R5 d hd
  · show upd (v 2) i z j = _
    by_cases q : j = i
    · rw [q, pk_us, pk_us]
    · rw [pk_un q, ro (74 + j) (by omega)]; exact R6 j hj
  · rw [ro 81 (by omega)]; exact R7
  · rw [ro 82 (by omega)]; exact R8
  · rw [ro 83 (by omega)]; exact R9
  · rw [ro 84 (by omega)]; exact R10
  · rw [ro 85 (by omega)]; exact R11
  · rw [ro 86 (by omega)]; exact R12
  · rw [ro 87 (by omega)]; exact R13
  · rw [ro 87 (by omega)] at j1
    rw [ro (88 + 3 * j) (by omega), ro (89 + 3 * j) (by omega), ro (90 + 3 * j) (by omega)]; exact R14 j j1 j2
  · exact R15.trans (smF_congr 24 (fun d hd => (ro (26 + d) (by omega)).symm))
  · exact R16.trans (smF_congr 24 (fun d hd => (ro (50 + d) (by omega)).symm))
theorem Gd_set {B : Nat} {r : Nat → Int32} {i : Nat} {z : Int32} (G : Gd B r) (hi : i < 7) (hI : SI (upd r (74 + i) z)) : Gd B (upd r (74 + i) z) := by
  obtain ⟨g1, g2, g3, g4, g5, g6⟩ := G
  have ro : ∀ k, k ≠ 74 + i → upd r (74 + i) z k = r k := fun k h => pk_un h
  refine ⟨hI, fun d hd => ?_, ?_, ?_, fun j hj => ?_, fun d hd => ?_⟩
  · rw [aN_e (ro d (by omega)), ro d (by omega)]; exact g2 d hd
  · rw [aN_e (ro 86 (by omega)), ro 86 (by omega)]; exact g3
  · rw [aN_e (ro 87 (by omega)), ro 87 (by omega)]; exact g4
  · rw [aN_e (ro (90 + 3 * j) (by omega)), ro (90 + 3 * j) (by omega)]; exact g5 j hj
  · rw [aN_e (ro (26 + d) (by omega)), ro (26 + d) (by omega), aN_e (ro (50 + d) (by omega)), ro (50 + d) (by omega)]; exact g6 d hd
