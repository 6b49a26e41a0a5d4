/-! rows that agree on their 124 places; copies -/
theorem SI_rw {r r' : Nat → Int32} (h : ∀ k, k < 124 → r' k = r k) (G : SI r) : SI r' := SI_congr (fun k _ k2 => h k (by omega)) G
theorem Gd_row {B : Nat} {r r' : Nat → Int32} (h : ∀ k, k < 124 → r' k = r k) (G : Gd B r) : Gd B r' := by
  obtain ⟨g1, g2, g3, g4, g5, g6⟩ := G
  refine ⟨SI_rw h g1, fun d hd => ?_, ?_, ?_, fun j hj => ?_, fun d hd => ?_⟩
  · rw [aN_e (h d (by omega)), h d (by omega)]; exact g2 d hd
  · rw [aN_e (h 86 (by omega)), h 86 (by omega)]; exact g3
  · rw [aN_e (h 87 (by omega)), h 87 (by omega)]; exact g4
  · rw [aN_e (h (90 + 3 * j) (by omega)), h (90 + 3 * j) (by omega)]; exact g5 j hj
  · rw [aN_e (h (26 + d) (by omega)), h (26 + d) (by omega), aN_e (h (50 + d) (by omega)), h (50 + d) (by omega)]; exact g6 d hd
theorem Gd_mono {B B' : Nat} {r : Nat → Int32} (h : B ≤ B') (G : Gd B r) : Gd B' r := by
  obtain ⟨g1, g2, g3, g4, g5, g6⟩ := G
  exact ⟨g1, g2, g3, g4, g5, fun d hd => ⟨(g6 d hd).1, (g6 d hd).2.1, (g6 d hd).2.2.1, Nat.le_trans (g6 d hd).2.2.2 h⟩⟩
theorem RelS_row {v : SV} {r r' : Nat → Int32} (h : ∀ k, k < 124 → r' k = r k) (R : RelS v r) : RelS v r' := by
  obtain ⟨R1, ⟨R2, R3⟩, R4, R5, R6, ⟨R7, R8, R9, R10, R11, R12, R13⟩, R14, R15, R16⟩ := R
  refine ⟨fun d hd => ?_, ⟨?_, ?_⟩, fun d hd => ?_, fun d hd => ?_, fun i hi => ?_, ⟨?_, ?_, ?_, ?_, ?_, ?_, ?_⟩, fun j j1 j2 => ?_, ?_, ?_⟩
  · rw [h d (by omega)]; exact R1 d hd
  · rw [h 24 (by omega)]; exact R2
  · rw [h 25 (by omega)]; exact R3
  · rw [h (26 + d) (by omega)]; exact R4 d hd
  · rw [h (50 + d) (by omega)]; exact R5 d hd
  · rw [h (74 + i) (by omega)]; exact R6 i hi
  · rw [h 81 (by omega)]; exact R7
  · rw [h 82 (by omega)]; exact R8
  · rw [h 83 (by omega)]; exact R9
  · rw [h 84 (by omega)]; exact R10
  · rw [h 85 (by omega)]; exact R11
  · rw [h 86 (by omega)]; exact R12
  · rw [h 87 (by omega)]; exact R13
  · rw [h 87 (by omega)] at j1
    rw [h (88 + 3 * j) (by omega), h (89 + 3 * j) (by omega), h (90 + 3 * j) (by omega)]; exact R14 j j1 j2
  · rw [R15]
    exact smF_congr 24 (fun d hd => (h (26 + d) (by omega)).symm)
  · rw [R16]
    exact smF_congr 24 (fun d hd => (h (50 + d) (by omega)).symm)
theorem copyRow_v (n : Nat) (f g : Nat → Int32) {i : Nat} (hi : i < n) : fX5_copyRow n f n g i = f i := by
  unfold fX5_copyRow
  rw [pk_cpy_in (by omega) (by omega)]
  congr 1
  omega
theorem copyFrom_v (v w : SV) : (∀ d, d < 24 → fX2_copyFrom v w 0 d = w 0 d) ∧ (∀ i, i < 7 → fX2_copyFrom v w 2 i = w 2 i) ∧ (∀ j, j < 12 → fX2_copyFrom v w 3 j = w 3 j ∧ fX2_copyFrom v w 4 j = w 4 j ∧ fX2_copyFrom v w 5 j = w 5 j) ∧ (∀ d, d < 24 → fX2_copyFrom v w 6 d = w 6 d ∧ fX2_copyFrom v w 7 d = w 7 d) ∧ (∀ k, k < 11 → fX2_copyFrom v w 8 k = w 8 k) := by
  refine ⟨fun d hd => ?_, fun i hi => ?_, fun j hj => ⟨?_, ?_, ?_⟩, fun d hd => ⟨?_, ?_⟩, al11 rfl rfl rfl rfl rfl rfl rfl rfl rfl rfl rfl⟩
  · exact copyRow_v 24 (w 0) (v 0) hd
  · exact copyRow_v 7 (w 2) (v 2) hi
  · exact copyRow_v 12 (w 3) (v 3) hj
  · exact copyRow_v 12 (w 4) (v 4) hj
  · exact copyRow_v 12 (w 5) (v 5) hj
  · exact copyRow_v 24 (w 6) (v 6) hd
  · exact copyRow_v 24 (w 7) (v 7) hd
theorem RelS_copy {v w : SV} {r : Nat → Int32} (R : RelS w r) : RelS (fX2_copyFrom v w) r := by
  obtain ⟨h0, h2, h3, h6, h8⟩ := copyFrom_v v w
  obtain ⟨R1, ⟨R2, R3⟩, R4, R5, R6, ⟨R7, R8, R9, R10, R11, R12, R13⟩, R14, R15, R16⟩ := R
  refine ⟨fun d hd => ?_, ⟨?_, ?_⟩, fun d hd => ?_, fun d hd => ?_, fun i hi => ?_, ⟨?_, ?_, ?_, ?_, ?_, ?_, ?_⟩, fun j j1 j2 => ?_, ?_, ?_⟩
  · rw [h0 d hd]; exact R1 d hd
  · rw [h8 8 (by omega)]; exact R2
  · rw [h8 9 (by omega)]; exact R3
  · rw [(h6 d hd).1]; exact R4 d hd
  · rw [(h6 d hd).2]; exact R5 d hd
  · rw [h2 i hi]; exact R6 i hi
  · rw [h8 10 (by omega)]; exact R7
  · rw [h8 1 (by omega)]; exact R8
  · rw [h8 2 (by omega)]; exact R9
  · rw [h8 3 (by omega)]; exact R10
  · rw [h8 4 (by omega)]; exact R11
  · rw [h8 7 (by omega)]; exact R12
  · rw [h8 0 (by omega)]; exact R13
  · rw [(h3 j j2).1, (h3 j j2).2.1, (h3 j j2).2.2]; exact R14 j j1 j2
  · rw [h8 5 (by omega)]; exact R15
  · rw [h8 6 (by omega)]; exact R16
/-! the relation between the two objects; n: calls so far -/
def R1 (n : Nat) (s : SV) (r : Nat → Int32) : Prop := RelS s r ∧ Gd (300 * n) r
theorem R1.mono {n m : Nat} {s : SV} {r : Nat → Int32} (h : n ≤ m) (q : R1 n s r) : R1 m s r := ⟨q.1, Gd_mono (by omega) q.2⟩
theorem R1.row {n : Nat} {s : SV} {r r' : Nat → Int32} (h : ∀ k, k < 124 → r' k = r k) (q : R1 n s r) : R1 n s r' := ⟨RelS_row h q.1, Gd_row h q.2⟩
theorem R1.copy {n : Nat} {s t : SV} {r : Nat → Int32} (q : R1 n s r) : R1 n (fX2_copyFrom t s) r := ⟨RelS_copy q.1, q.2⟩
def RK (n : Nat) (x : HV) (v : SV) : Prop := x 9 2 1 = v 8 1 ∧ (v 8 1 = 0 ∨ R1 n (x 1) (v 2))
def RV (n : Nat) (x : HV) (v : SV) : Prop := ∃ k, k ≤ 6 ∧ x 9 2 0 = nI k ∧ v 8 0 = nI k ∧ ∀ j, j < k → R1 n (x (3 + j)) (fun i => v 1 (124 * j + i))
def RB (x : HV) (v : SV) : Prop := ∃ l, l ≤ 60 ∧ x 9 2 2 = nI l ∧ v 8 6 = nI l ∧ ∀ i, i < l → x 9 0 i = v 4 i ∧ ∃ c, 33 ≤ c ∧ c ≤ 126 ∧ v 4 i = nI c
def RelH (n : Nat) (x : HV) (v : SV) : Prop := R1 n (x 0) (v 0) ∧ RK n x v ∧ RV n x v ∧ RB x v ∧ (x 9 1 2).toNatClampNeg < 8
theorem RelH.mono {n m : Nat} {x : HV} {v : SV} (h : n ≤ m) (q : RelH n x v) : RelH m x v := by
  obtain ⟨q1, ⟨q2, q3⟩, ⟨k, k1, k2, k3, k4⟩, q5, q6⟩ := q
  exact ⟨q1.mono h, ⟨q2, q3.imp id (R1.mono h)⟩, ⟨k, k1, k2, k3, fun j hj => (k4 j hj).mono h⟩, q5, q6⟩
theorem RelH.v {n : Nat} {x : HV} {v u : SV} (h0 : u 0 = v 0) (h1 : u 1 = v 1) (h2 : u 2 = v 2) (h4 : u 4 = v 4) (s0 : u 8 0 = v 8 0) (s1 : u 8 1 = v 8 1) (s6 : u 8 6 = v 8 6) (q : RelH n x v) : RelH n x u := by
  unfold RelH RK RV RB at q ⊢
  rw [h0, h1, h2, h4, s0, s1, s6]
  exact q
theorem RelH_new : RelH 0 hv0 mv0 := by
  refine ⟨⟨RelS_new, ?_⟩, ⟨rfl, Or.inl rfl⟩, ⟨0, by omega, nI_0.symm, nI_0.symm, fun j hj => absurd hj (Nat.not_lt_zero j)⟩, ⟨0, by omega, nI_0.symm, nI_0.symm, fun j hj => absurd hj (Nat.not_lt_zero j)⟩, by decide⟩
  refine ⟨⟨⟨120, by omega, by omega, rfl⟩, ⟨40, by omega, by omega, rfl⟩, ⟨500, by omega, by omega, rfl⟩, ⟨8, by omega, by omega, rfl⟩, ⟨100, by omega, by omega, rfl⟩, ⟨0, by omega, rfl⟩, ⟨5, by omega, rfl⟩, ⟨0, by omega, rfl⟩⟩, ?_⟩
  decide +kernel
/-! saving -/
theorem al6 {P : Nat → Prop} (h0 : P 0) (h1 : P 1) (h2 : P 2) (h3 : P 3) (h4 : P 4) (h5 : P 5) : ∀ k, k < 6 → P k := fun k b => match k, b with
  | 0, _ => h0
  | 1, _ => h1
  | 2, _ => h2
  | 3, _ => h3
  | 4, _ => h4
  | 5, _ => h5
  | k + 6, h => absurd h (by omega)
def FR0 (v u : SV) : Prop := u 0 = v 0 ∧ (∀ k, 2 ≤ k → k < 8 → u k = v k) ∧ ∀ k, 1 ≤ k → k < 9 → u 8 k = v 8 k
theorem FR0_mk {v t : SV} {f : Nat → Int32} {a : Int32} (h : FR0 v t) : FR0 v (mkM (t 0) f (t 2) (t 3) (t 4) (t 5) (t 6) (t 7) a (t 8 1) (t 8 2) (t 8 3) (t 8 4) (t 8 5) (t 8 6) (t 8 7) (t 8 8)) := by
  obtain ⟨h0, h1, h2⟩ := h
  refine ⟨h0, fun k k1 k2 => ?_, fun k k1 k2 => ?_⟩
  · exact al8 (P := fun k => 2 ≤ k → mkM (t 0) f (t 2) (t 3) (t 4) (t 5) (t 6) (t 7) a (t 8 1) (t 8 2) (t 8 3) (t 8 4) (t 8 5) (t 8 6) (t 8 7) (t 8 8) k = v k) (fun q => absurd q (by omega)) (fun q => absurd q (by omega)) (fun _ => h1 2 (by omega) (by omega)) (fun _ => h1 3 (by omega) (by omega)) (fun _ => h1 4 (by omega) (by omega)) (fun _ => h1 5 (by omega) (by omega)) (fun _ => h1 6 (by omega) (by omega)) (fun _ => h1 7 (by omega) (by omega)) k k2 k1
  · exact al9 (P := fun k => 1 ≤ k → mkM (t 0) f (t 2) (t 3) (t 4) (t 5) (t 6) (t 7) a (t 8 1) (t 8 2) (t 8 3) (t 8 4) (t 8 5) (t 8 6) (t 8 7) (t 8 8) 8 k = v 8 k) (fun q => absurd q (by omega)) (fun _ => h2 1 (by omega) (by omega)) (fun _ => h2 2 (by omega) (by omega)) (fun _ => h2 3 (by omega) (by omega)) (fun _ => h2 4 (by omega) (by omega)) (fun _ => h2 5 (by omega) (by omega)) (fun _ => h2 6 (by omega) (by omega)) (fun _ => h2 7 (by omega) (by omega)) (fun _ => h2 8 (by omega) (by omega)) k k2 k1
theorem save_51 {v w : SV} {k : Nat} (hk : k ≤ 5) (h8 : w 8 0 = nI k) {u : SV} (hu : u = tX6_save_J49 v w) : (∀ i, i < 124 → u 1 (124 * k + i) = w 0 i) ∧ (∀ i, i < 124 * k → u 1 i = w 1 i) ∧ u 8 0 = nI (k + 1) ∧ FR0 w u := by
  rw [hu]
  unfold tX6_save_J49 tX6_save_51
  dsimp only
  have key := lpF_0 (fun n (s : SV) => (∀ i, i < n → s 1 (124 * k + i) = w 0 i) ∧ (∀ i, i < 124 * k → s 1 i = w 1 i) ∧ s 8 0 = nI k ∧ FR0 w s) (b := bX6_save_51 v) 124 w (fun d t hd h => by
    obtain ⟨h1, h2, h3, h4⟩ := h
    have e : bX6_save_51 v d t = mkM (t 0) (upd (t 1) (124 * k + d) (t 0 d)) (t 2) (t 3) (t 4) (t 5) (t 6) (t 7) (t 8 0) (t 8 1) (t 8 2) (t 8 3) (t 8 4) (t 8 5) (t 8 6) (t 8 7) (t 8 8) := by
      unfold bX6_save_51
      dsimp only
      rw [h3, nI_clamp (by omega)]
    rw [e]
    refine ⟨fun i hi => ?_, fun i hi => ?_, h3, FR0_mk h4⟩
    · show upd (t 1) (124 * k + d) (t 0 d) (124 * k + i) = _
      by_cases q : i = d
      · rw [q, pk_us, h4.1]
      · rw [pk_un (by omega), h1 i (by omega)]
    · show upd (t 1) (124 * k + d) (t 0 d) i = _
      rw [pk_un (by omega), h2 i hi]) ⟨fun i hi => absurd hi (Nat.not_lt_zero i), fun _ _ => rfl, h8, rfl, fun _ _ _ => rfl, fun _ _ _ => rfl⟩
  obtain ⟨z, ez⟩ : ∃ z, z = lpF 124 0 (bX6_save_51 v) w := ⟨_, rfl⟩
  rw [← ez] at key ⊢
  obtain ⟨h1, h2, h3, h4⟩ := key
  refine ⟨h1, h2, ?_, FR0_mk h4⟩
  show z 8 0 + 1 = _
  rw [h3, nI_1]
theorem save_11 {v : SV} {u : SV} (hu : u = lpF 620 0 (bX6_save_11 v) v) : (∀ i, i < 620 → u 1 i = v 1 (i + 124)) ∧ u 8 0 = v 8 0 ∧ FR0 v u := by
  rw [hu]
  have key := lpF_0 (fun n (s : SV) => (∀ i, i < n → s 1 i = v 1 (i + 124)) ∧ (∀ i, n ≤ i → s 1 i = v 1 i) ∧ s 8 0 = v 8 0 ∧ FR0 v s) (b := bX6_save_11 v) 620 v (fun d t hd h => by
    obtain ⟨h1, h2, h3, h4⟩ := h
    refine ⟨fun i hi => ?_, fun i hi => ?_, h3, FR0_mk h4⟩
    · show upd (t 1) d (t 1 (d + 124)) i = _
      by_cases q : i = d
      · rw [q, pk_us, h2 _ (by omega)]
      · rw [pk_un q, h1 i (by omega)]
    · show upd (t 1) d (t 1 (d + 124)) i = _
      rw [pk_un (by omega), h2 i (by omega)]) ⟨fun i hi => absurd hi (Nat.not_lt_zero i), fun _ _ => rfl, rfl, rfl, fun _ _ _ => rfl, fun _ _ _ => rfl⟩
  exact ⟨key.1, key.2.2.1, key.2.2.2⟩
theorem save_6 {v : SV} {k : Nat} (hk : k ≤ 6) (h8 : v 8 0 = nI k) {u : SV} (hu : u = fX6_save v) : (∀ i, i < 124 → u 1 (124 * min k 5 + i) = v 0 i) ∧ (∀ j, j < min k 5 → ∀ i, i < 124 → u 1 (124 * j + i) = v 1 (124 * (if k = 6 then j + 1 else j) + i)) ∧ u 8 0 = nI (min k 5 + 1) ∧ FR0 v u := by
  rw [hu]
  unfold fX6_save
  by_cases q : k = 6
  · subst q
    rw [if_pos (by rw [h8]; rfl)]
    obtain ⟨z, ez⟩ : ∃ z, z = lpF 620 0 (bX6_save_11 v) v := ⟨_, rfl⟩
    obtain ⟨a1, a2, a3⟩ := save_11 ez
    rw [← ez]
    unfold tX6_save_11
    dsimp only
    obtain ⟨y, ey⟩ : ∃ y, y = mkM (z 0) (z 1) (z 2) (z 3) (z 4) (z 5) (z 6) (z 7) (z 8 0 - 1) (z 8 1) (z 8 2) (z 8 3) (z 8 4) (z 8 5) (z 8 6) (z 8 7) (z 8 8) := ⟨_, rfl⟩
    rw [← ey]
    have y1 : y 1 = z 1 := by rw [ey]; rfl
    have y8 : y 8 0 = nI 5 := by
      rw [ey]
      show z 8 0 - 1 = _
      rw [a2, h8]
      rfl
    have yF : FR0 v y := by rw [ey]; exact FR0_mk a3
    obtain ⟨b1, b2, b3, b4⟩ := save_51 (v := v) (w := y) (k := 5) (by omega) y8 rfl
    refine ⟨fun i hi => (b1 i hi).trans (by rw [yF.1]), fun j hj i hi => ?_, b3, b4.1.trans yF.1, fun k k1 k2 => (b4.2.1 k k1 k2).trans (yF.2.1 k k1 k2), fun k k1 k2 => (b4.2.2 k k1 k2).trans (yF.2.2 k k1 k2)⟩
    rw [if_pos rfl, b2 _ (by omega), y1, a1 _ (by omega)]
    congr 1
    omega
  · rw [if_neg (by rw [h8]; exact fun z => q ((nI_eq (b := 6) (by omega) (by omega)).mp z)), Nat.min_eq_left (by omega)]
    obtain ⟨b1, b2, b3, b4⟩ := save_51 (v := v) (w := v) (k := k) (by omega) h8 rfl
    refine ⟨b1, fun j hj i hi => ?_, b3, b4⟩
    rw [if_neg q]
    exact b2 _ (by omega)
def mkU (x : HV) (k : Nat) (c : SV) (a : Int32) : HV := mkH (hU x k c 0) (hU x k c 1) (hU x k c 2) (hU x k c 3) (hU x k c 4) (hU x k c 5) (hU x k c 6) (hU x k c 7) (hU x k c 8) (hU x k c 9 0) (hU x k c 9 1) a (hU x k c 9 2 1) (hU x k c 9 2 2)
theorem mkU_at (x : HV) (k : Nat) (c : SV) (a : Int32) : ∀ j, j < 6 → mkU x k c a (3 + j) = sl x k c j := al6 rfl rfl rfl rfl rfl rfl
theorem drop_at (x : HV) : ∀ j, j < 6 → j < 5 → fX5_dropOldest x (3 + j) = x (3 + (j + 1)) := al6 (fun _ => rfl) (fun _ => rfl) (fun _ => rfl) (fun _ => rfl) (fun _ => rfl) (fun h => absurd h (by omega))
theorem save_5 {x : HV} {k : Nat} (hk : k ≤ 6) (h9 : x 9 2 0 = nI k) {y : HV} (hy : y = fX5_saveState x) : (∃ t, y (3 + min k 5) = fX2_copyFrom t (x 0)) ∧ (∀ j, j < min k 5 → y (3 + j) = x (3 + (if k = 6 then j + 1 else j))) ∧ y 9 2 0 = nI (min k 5 + 1) ∧ y 0 = x 0 ∧ y 1 = x 1 ∧ y 9 0 = x 9 0 ∧ y 9 1 = x 9 1 ∧ y 9 2 1 = x 9 2 1 ∧ y 9 2 2 = x 9 2 2 := by
  by_cases q : k = 6
  · subst q
    have e : y = mkU (fX5_dropOldest x) 5 (fX2_copyFrom (x 3) (x 0)) 6 := by
      rw [hy]
      unfold fX5_saveState
      rw [if_neg (by rw [h9]; exact nI_nlt (Nat.le_refl _) (by omega))]
      rfl
    rw [e]
    refine ⟨⟨x 3, (mkU_at _ _ _ _ 5 (by omega)).trans (if_pos rfl)⟩, fun j hj => ?_, rfl, rfl, rfl, rfl, rfl, rfl, rfl⟩
    rw [if_pos rfl]
    have hj : j < 5 := by omega
    exact (mkU_at _ _ _ _ j (by omega)).trans ((if_neg (by omega)).trans (drop_at x j (by omega) hj))
  · have e : y = mkU x k (fX2_copyFrom (x (3 + k)) (x 0)) (nI k + 1) := by
      rw [hy]
      unfold fX5_saveState
      rw [if_pos (by rw [h9]; exact nI_lt (by omega) (by omega)), h9, nI_clamp (by omega), ← h9]
      rfl
    rw [e, Nat.min_eq_left (by omega)]
    refine ⟨⟨x (3 + k), (mkU_at _ _ _ _ k (by omega)).trans (if_pos rfl)⟩, fun j hj => ?_, nI_1 k, rfl, rfl, rfl, rfl, rfl, rfl⟩
    rw [if_neg q]
    exact (mkU_at _ _ _ _ j (by omega)).trans (if_neg (by omega))
theorem Rel_save {n : Nat} {x : HV} {v : SV} (R : RelH n x v) {y : HV} (hy : y = fX5_saveState x) {u : SV} (hu : u = fX6_save v) : RelH n y u ∧ y 0 = x 0 ∧ FR0 v u ∧ y 9 0 = x 9 0 ∧ y 9 1 = x 9 1 ∧ y 9 2 2 = x 9 2 2 := by
  obtain ⟨q1, ⟨q2, q3⟩, ⟨k, k1, k2, k3, k4⟩, ⟨l, l1, l2, l3, l4⟩, q6⟩ := R
  obtain ⟨⟨t, y1⟩, y2, y3, y4, y5, y6, y7, y8, y9⟩ := save_5 k1 k2 hy
  obtain ⟨u1, u2, u3, u4, u5, u6⟩ := save_6 k1 k3 hu
  refine ⟨⟨by rw [y4, u4]; exact q1, ⟨by rw [y8, u6 1 (by omega) (by omega)]; exact q2, by rw [u6 1 (by omega) (by omega), y5, u5 2 (by omega) (by omega)]; exact q3⟩, ⟨min k 5 + 1, by omega, y3, u3, fun j hj => ?_⟩, ⟨l, l1, by rw [y9]; exact l2, by rw [u6 6 (by omega) (by omega)]; exact l3, by rw [y6, u5 4 (by omega) (by omega)]; exact l4⟩, by rw [y7]; exact q6⟩, y4, ⟨u4, u5, u6⟩, y6, y7, y9⟩
  by_cases z : j = min k 5
  · subst z
    rw [y1]
    exact R1.row u1 (R1.copy q1)
  · rw [y2 j (by omega)]
    exact R1.row (u2 j (by omega)) (k4 (if k = 6 then j + 1 else j) (by split <;> omega))
