/-! the calls, on both sides -/
def OKF (n : Nat) (t : Nat → Int32) (F : (HV × Int32) ⊕ (Nat × HV)) (u : SV × Int32) : Prop := RelH n (wldL F) u.1 ∧ u.1 8 2 = codeL t F ∧ (codeL t F = 0 → ∀ y, ansL F y = u.2.toInt64)
theorem OKF.out {n m : Nat} {t : Nat → Int32} {x : HV} {v u : SV} {k : Nat} {z : Int32} (R : RelH n x v) (h : n ≤ m) (h0 : u 0 = v 0) (h1 : u 1 = v 1) (h2 : u 2 = v 2) (h4 : u 4 = v 4) (s0 : u 8 0 = v 8 0) (s1 : u 8 1 = v 8 1) (s6 : u 8 6 = v 8 6) (hc : u 8 2 = t k) (hn : ¬ t k = 0) : OKF m t (.inr (k, x)) (u, z) :=
  ⟨(R.v h0 h1 h2 h4 s0 s1 s6).mono h, hc, fun q => absurd q hn⟩
theorem OKF.val {m : Nat} {t : Nat → Int32} {x : HV} {u : SV} {a z : Int32} (R : RelH m x u) (h2 : u 8 2 = 0) (ha : a = z) : OKF m t (.inl (x, a)) (u, z) :=
  ⟨R, h2, fun _ _ => congrArg Int32.toInt64 ha⟩
theorem iw_cases (x : Int32) (a b : Nat) (hab : a ≤ b) (hb : b < 2 ^ 31) : fX5_isWithin x (nI a) (nI b) = 0 ∨ ∃ n, a ≤ n ∧ n ≤ b ∧ x = nI n ∧ fX5_isWithin x (nI a) (nI b) = 1 := by
  unfold fX5_isWithin
  by_cases h : x < nI a
  · exact Or.inl (if_pos h)
  · rw [if_neg h]
    by_cases h2 : nI b < x
    · exact Or.inl (if_pos h2)
    · rw [if_neg h2]
      have h3 : ¬ x < 0 := fun z => h (Int32.lt_of_lt_of_le z (by rw [← nI_0]; exact nI_le (Nat.zero_le _) (by omega)))
      obtain ⟨j, hj, rfl⟩ := nI_of h3
      exact Or.inr ⟨j, Nat.not_lt.mp (fun z => h (nI_lt z (by omega))), Nat.not_lt.mp (fun z => h2 (nI_lt z hj)), rfl, rfl⟩
def thr0 (v : SV) : SV := mkM (v 0) (v 1) (v 2) (v 3) (v 4) (v 5) (v 6) (v 7) (v 8 0) (v 8 1) 0 (v 8 3) (v 8 4) (v 8 5) (v 8 6) (v 8 7) (v 8 8)
theorem RelH_thr {n : Nat} {x : HV} {v : SV} (R : RelH n x v) : RelH n x (thr0 v) := R.v rfl rfl rfl rfl rfl rfl rfl
theorem Rel_now {n m : Nat} {y : HV} {u u' s' : SV} (R : RelH n y u) (h : n ≤ m) (q : R1 m s' (u' 0)) (h1 : u' 1 = u 1) (h2 : u' 2 = u 2) (h4 : u' 4 = u 4) (s0 : u' 8 0 = u 8 0) (s1 : u' 8 1 = u 8 1) (s6 : u' 8 6 = u 8 6) : RelH m (mkH s' (y 1) (y 2) (y 3) (y 4) (y 5) (y 6) (y 7) (y 8) (y 9 0) (y 9 1) (y 9 2 0) (y 9 2 1) (y 9 2 2)) u' := by
  obtain ⟨-, ⟨q2, q3⟩, ⟨k, k1, k2, k3, k4⟩, ⟨l, l1, l2, l3, l4⟩, q6⟩ := R.mono h
  refine ⟨q, ⟨by rw [s1]; exact q2, by rw [s1, h2]; exact q3⟩, ⟨k, k1, k2, by rw [s0]; exact k3, fun j hj => ?_⟩, ⟨l, l1, l2, by rw [s6]; exact l3, by rw [h4]; exact l4⟩, q6⟩
  rw [h1]
  have e : mkH s' (y 1) (y 2) (y 3) (y 4) (y 5) (y 6) (y 7) (y 8) (y 9 0) (y 9 1) (y 9 2 0) (y 9 2 1) (y 9 2 2) (3 + j) = y (3 + j) := al6 (P := fun j => mkH s' (y 1) (y 2) (y 3) (y 4) (y 5) (y 6) (y 7) (y 8) (y 9 0) (y 9 1) (y 9 2 0) (y 9 2 1) (y 9 2 2) (3 + j) = y (3 + j)) rfl rfl rfl rfl rfl rfl j (by omega)
  rw [e]
  exact k4 j hj
theorem Rel_nowF {n m : Nat} {y : HV} {u u' s' : SV} (R : RelH n y u) (h : n ≤ m) (q : R1 m s' (u' 0)) (F : FRL u u') : RelH m (mkH s' (y 1) (y 2) (y 3) (y 4) (y 5) (y 6) (y 7) (y 8) (y 9 0) (y 9 1) (y 9 2 0) (y 9 2 1) (y 9 2 2)) u' :=
  Rel_now R h q (F.1 1 (by omega) (by omega)) (F.1 2 (by omega) (by omega)) (F.1 4 (by omega) (by omega)) (F.2 0 (by omega) (by omega) (by omega) (by omega)) (F.2 1 (by omega) (by omega) (by omega) (by omega)) (F.2 6 (by omega) (by omega) (by omega) (by omega))
theorem one_ne : ¬ (1 : Int32) = 0 := by decide
theorem op_line {n : Nat} {x : HV} {v : SV} (R : RelH n x v) (hn : n < 512) (x1 : Int32) : OKF (n + 1) (fun _ => 1) (fX5_line x x1) (fX6_line v x1) := by
  have e1 : fX5_line x x1 = if fX5_isWithin x1 0 16777215 = 0 then .inr (0, x) else .inl (mkH (fX2_printLine (fX5_saveState x 0) x1).1 (fX5_saveState x 1) (fX5_saveState x 2) (fX5_saveState x 3) (fX5_saveState x 4) (fX5_saveState x 5) (fX5_saveState x 6) (fX5_saveState x 7) (fX5_saveState x 8) (fX5_saveState x 9 0) (fX5_saveState x 9 1) (fX5_saveState x 9 2 0) (fX5_saveState x 9 2 1) (fX5_saveState x 9 2 2), (fX2_printLine (fX5_saveState x 0) x1).2) := rfl
  have e2 : fX6_line v x1 = if fX5_isWithin x1 0 16777215 = 0 then fX6_fails (thr0 v) 1 else ((fX6_printLine (fX6_save (thr0 v)) x1).1, (fX6_printLine (fX6_save (thr0 v)) x1).2) := rfl
  rw [e1, e2]
  rcases iw_cases x1 0 16777215 (by omega) (by omega) with h | ⟨X, -, hX, rfl, h⟩
  · have h : fX5_isWithin x1 0 16777215 = 0 := h
    rw [h, if_pos rfl, if_pos rfl]
    exact OKF.out (v := v) R (by omega) rfl rfl rfl rfl rfl rfl rfl rfl (by decide)
  · have h : fX5_isWithin (nI X) 0 16777215 = 1 := h
    rw [h, if_neg one_ne, if_neg one_ne]
    obtain ⟨y, ey⟩ : ∃ y, y = fX5_saveState x := ⟨_, rfl⟩
    obtain ⟨u, eu⟩ : ∃ u, u = fX6_save (thr0 v) := ⟨_, rfl⟩
    obtain ⟨S, y0, F, -⟩ := Rel_save (RelH_thr R) ey eu
    rw [← ey, ← eu]
    obtain ⟨a, ea⟩ : ∃ a, a = fX2_printLine (y 0) (nI X) := ⟨_, rfl⟩
    obtain ⟨b, eb⟩ : ∃ b, b = fX6_printLine u (nI X) := ⟨_, rfl⟩
    rw [← ea, ← eb]
    obtain ⟨p1, p2, p3, p4⟩ := line_eq S.1.1 S.1.2 (by omega) (by omega) ea eb
    refine OKF.val (Rel_nowF S (by omega) ⟨p1, Gd_mono (by omega) p2⟩ p3) ?_ p4
    rw [p3.2 2 (by omega) (by omega) (by omega) (by omega), F.2.2 2 (by omega) (by omega)]
    rfl
theorem op_lines {n : Nat} {x : HV} {v : SV} (R : RelH n x v) (hn : n < 512) (x1 x2 : Int32) : OKF (n + 1) (fun _ => 1) (fX5_lines x x1 x2) (fX6_lines v x1 x2) := by
  have e1 : fX5_lines x x1 x2 = if fX5_isWithin x1 0 16777215 = 0 then .inr (0, x) else if fX5_isWithin x2 1 20 = 0 then .inr (0, x) else .inl (mkH (fX2_printLines (fX5_saveState x 0) x1 x2) (fX5_saveState x 1) (fX5_saveState x 2) (fX5_saveState x 3) (fX5_saveState x 4) (fX5_saveState x 5) (fX5_saveState x 6) (fX5_saveState x 7) (fX5_saveState x 8) (fX5_saveState x 9 0) (fX5_saveState x 9 1) (fX5_saveState x 9 2 0) (fX5_saveState x 9 2 1) (fX5_saveState x 9 2 2), fX2_printLines (fX5_saveState x 0) x1 x2 8 6 - fX5_saveState x 0 8 6) := rfl
  have e2 : fX6_lines v x1 x2 = if fX5_isWithin x1 0 16777215 = 0 then fX6_fails (thr0 v) 1 else if fX5_isWithin x2 1 20 = 0 then fX6_fails (thr0 v) 1 else ((fX6_printSome (fX6_save (thr0 v)) x1 x2).1, (fX6_printSome (fX6_save (thr0 v)) x1 x2).2) := rfl
  rw [e1, e2]
  rcases iw_cases x1 0 16777215 (by omega) (by omega) with h | ⟨X, -, hX, rfl, h⟩
  · have h : fX5_isWithin x1 0 16777215 = 0 := h
    rw [h, if_pos rfl, if_pos rfl]
    exact OKF.out (v := v) R (by omega) rfl rfl rfl rfl rfl rfl rfl rfl (by decide)
  · have h : fX5_isWithin (nI X) 0 16777215 = 1 := h
    rw [h, if_neg one_ne, if_neg one_ne]
    rcases iw_cases x2 1 20 (by omega) (by omega) with g | ⟨t, ht1, ht2, rfl, g⟩
    · have g : fX5_isWithin x2 1 20 = 0 := g
      rw [g, if_pos rfl, if_pos rfl]
      exact OKF.out (v := v) R (by omega) rfl rfl rfl rfl rfl rfl rfl rfl (by decide)
    · have g : fX5_isWithin (nI t) 1 20 = 1 := g
      rw [g, if_neg one_ne, if_neg one_ne]
      obtain ⟨y, ey⟩ : ∃ y, y = fX5_saveState x := ⟨_, rfl⟩
      obtain ⟨u, eu⟩ : ∃ u, u = fX6_save (thr0 v) := ⟨_, rfl⟩
      obtain ⟨S, y0, F, -⟩ := Rel_save (RelH_thr R) ey eu
      rw [← ey, ← eu]
      obtain ⟨a, ea⟩ : ∃ a, a = fX2_printLines (y 0) (nI X) (nI t) := ⟨_, rfl⟩
      obtain ⟨b, eb⟩ : ∃ b, b = fX6_printSome u (nI X) (nI t) := ⟨_, rfl⟩
      rw [← ea, ← eb]
      obtain ⟨p1, p2, p3, p4⟩ := lines_eq S.1.1 S.1.2 (by omega) (by omega) (by omega) ea eb
      refine OKF.val (Rel_nowF S (by omega) ⟨p1, Gd_mono (by omega) p2⟩ p3) ?_ p4
      rw [p3.2 2 (by omega) (by omega) (by omega) (by omega), F.2.2 2 (by omega) (by omega)]
      rfl
theorem op_rest {n : Nat} {x : HV} {v : SV} (R : RelH n x v) (hn : n < 512) (x1 : Int32) : OKF (n + 1) (fun _ => 1) (fX5_rest x x1) (fX6_rest v x1) := by
  have e1 : fX5_rest x x1 = if fX5_isWithin x1 1 999 = 0 then .inr (0, x) else .inl (mkH (fX2_passTime (fX5_saveState x 0) x1) (fX5_saveState x 1) (fX5_saveState x 2) (fX5_saveState x 3) (fX5_saveState x 4) (fX5_saveState x 5) (fX5_saveState x 6) (fX5_saveState x 7) (fX5_saveState x 8) (fX5_saveState x 9 0) (fX5_saveState x 9 1) (fX5_saveState x 9 2 0) (fX5_saveState x 9 2 1) (fX5_saveState x 9 2 2), fX2_hottestDot (fX2_passTime (fX5_saveState x 0) x1)) := rfl
  have e2 : fX6_rest v x1 = if fX5_isWithin x1 1 999 = 0 then fX6_fails (thr0 v) 1 else (fX6_pass (fX6_save (thr0 v)) x1, fX6_hottestNow (fX6_pass (fX6_save (thr0 v)) x1)) := rfl
  rw [e1, e2]
  rcases iw_cases x1 1 999 (by omega) (by omega) with h | ⟨t, ht1, ht2, rfl, h⟩
  · have h : fX5_isWithin x1 1 999 = 0 := h
    rw [h, if_pos rfl, if_pos rfl]
    exact OKF.out (v := v) R (by omega) rfl rfl rfl rfl rfl rfl rfl rfl (by decide)
  · have h : fX5_isWithin (nI t) 1 999 = 1 := h
    rw [h, if_neg one_ne, if_neg one_ne]
    obtain ⟨y, ey⟩ : ∃ y, y = fX5_saveState x := ⟨_, rfl⟩
    obtain ⟨u, eu⟩ : ∃ u, u = fX6_save (thr0 v) := ⟨_, rfl⟩
    obtain ⟨S, y0, F, -⟩ := Rel_save (RelH_thr R) ey eu
    rw [← ey, ← eu]
    obtain ⟨a, ea⟩ : ∃ a, a = fX2_passTime (y 0) (nI t) := ⟨_, rfl⟩
    obtain ⟨b, eb⟩ : ∃ b, b = fX6_pass u (nI t) := ⟨_, rfl⟩
    rw [← ea, ← eb]
    obtain ⟨p1, p2, p3⟩ := time_eq S.1.1 S.1.2 (by omega) ea eb
    refine OKF.val (Rel_nowF S (by omega) ⟨p1, Gd_mono (by omega) p2⟩ p3) ?_ ((hottestDot_2 p2 p1.1).trans (hottestNow_6 p2).symm)
    rw [p3.2 2 (by omega) (by omega) (by omega) (by omega), F.2.2 2 (by omega) (by omega)]
    rfl
theorem op_paper {n : Nat} {x : HV} {v : SV} (R : RelH n x v) (hn : n < 512) (x1 : Int32) : OKF (n + 1) (fun _ => 1) (fX5_paper x x1) (fX6_paper v x1) := by
  have e1 : fX5_paper x x1 = if fX5_isWithin x1 0 2 = 0 then .inr (0, x) else .inl (mkH (fX2_changePaper (fX5_saveState x 0) x1) (fX5_saveState x 1) (fX5_saveState x 2) (fX5_saveState x 3) (fX5_saveState x 4) (fX5_saveState x 5) (fX5_saveState x 6) (fX5_saveState x 7) (fX5_saveState x 8) (fX5_saveState x 9 0) (fX5_saveState x 9 1) (fX5_saveState x 9 2 0) (fX5_saveState x 9 2 1) (fX5_saveState x 9 2 2), fX5_saveState x 0 8 0) := rfl
  have e2 : fX6_paper v x1 = if fX5_isWithin x1 0 2 = 0 then fX6_fails (thr0 v) 1 else ((fX6_paperNow (fX6_save (thr0 v)) x1).1, (fX6_paperNow (fX6_save (thr0 v)) x1).2) := rfl
  rw [e1, e2]
  rcases iw_cases x1 0 2 (by omega) (by omega) with h | ⟨t, ht1, ht2, rfl, h⟩
  · have h : fX5_isWithin x1 0 2 = 0 := h
    rw [h, if_pos rfl, if_pos rfl]
    exact OKF.out (v := v) R (by omega) rfl rfl rfl rfl rfl rfl rfl rfl (by decide)
  · have h : fX5_isWithin (nI t) 0 2 = 1 := h
    rw [h, if_neg one_ne, if_neg one_ne]
    obtain ⟨y, ey⟩ : ∃ y, y = fX5_saveState x := ⟨_, rfl⟩
    obtain ⟨u, eu⟩ : ∃ u, u = fX6_save (thr0 v) := ⟨_, rfl⟩
    obtain ⟨S, y0, F, -⟩ := Rel_save (RelH_thr R) ey eu
    rw [← ey, ← eu]
    obtain ⟨a, ea⟩ : ∃ a, a = fX2_changePaper (y 0) (nI t) := ⟨_, rfl⟩
    obtain ⟨b, eb⟩ : ∃ b, b = fX6_paperNow u (nI t) := ⟨_, rfl⟩
    rw [← ea, ← eb]
    obtain ⟨p1, p2, p3, p4⟩ := paper_eq S.1.1 S.1.2 ht2 ea eb
    refine OKF.val (Rel_nowF S (by omega) ⟨p1, Gd_mono (by omega) p2⟩ p3) ?_ p4
    rw [p3.2 2 (by omega) (by omega) (by omega) (by omega), F.2.2 2 (by omega) (by omega)]
    rfl
theorem set_bounds : ∀ i, i < 7 → (∃ a b, a ≤ b ∧ b ≤ 900 ∧ fX5_at 7 st1 (nI i) = nI a ∧ fX5_at 7 st2 (nI i) = nI b ∧ (∀ z, fX6_maySet (nI i) z = fX5_isWithin z (nI a) (nI b)) ∧ ∀ (r : Nat → Int32) (c : Nat), SI r → a ≤ c → c ≤ b → SI (upd r (74 + i) (nI c))) := fun i hi => by
  match i, hi with
  | 0, _ => exact ⟨50, 300, by omega, by omega, by decide +kernel, by decide +kernel, fun z => rfl, fun r c h h1 h2 => ⟨⟨c, h1, h2, rfl⟩, h.2⟩⟩
  | 1, _ => exact ⟨5, 200, by omega, by omega, by decide +kernel, by decide +kernel, fun z => rfl, fun r c h h1 h2 => ⟨h.1, ⟨c, h1, h2, rfl⟩, h.2.2⟩⟩
  | 2, _ => exact ⟨330, 900, by omega, by omega, by decide +kernel, by decide +kernel, fun z => rfl, fun r c h h1 h2 => ⟨h.1, h.2.1, ⟨c, h1, h2, rfl⟩, h.2.2.2⟩⟩
  | 3, _ => exact ⟨1, 20, by omega, by omega, by decide +kernel, by decide +kernel, fun z => rfl, fun r c h h1 h2 => ⟨h.1, h.2.1, h.2.2.1, ⟨c, h1, h2, rfl⟩, h.2.2.2.2⟩⟩
  | 4, _ => exact ⟨1, 200, by omega, by omega, by decide +kernel, by decide +kernel, fun z => rfl, fun r c h h1 h2 => ⟨h.1, h.2.1, h.2.2.1, h.2.2.2.1, ⟨c, h1, h2, rfl⟩, h.2.2.2.2.2⟩⟩
  | 5, _ => exact ⟨0, 1, by omega, by omega, by decide +kernel, by decide +kernel, fun z => rfl, fun r c h h1 h2 => ⟨h.1, h.2.1, h.2.2.1, h.2.2.2.1, h.2.2.2.2.1, ⟨c, h2, rfl⟩, h.2.2.2.2.2.2⟩⟩
  | 6, _ => exact ⟨0, 50, by omega, by omega, by decide +kernel, by decide +kernel, fun z => rfl, fun r c h h1 h2 => ⟨h.1, h.2.1, h.2.2.1, h.2.2.2.1, h.2.2.2.2.1, h.2.2.2.2.2.1, ⟨c, h2, rfl⟩, h.2.2.2.2.2.2.2⟩⟩
  | i + 7, h => exact absurd h (by omega)
theorem op_set {n : Nat} {x : HV} {v : SV} (R : RelH n x v) (hn : n < 512) (x1 x2 : Int32) : OKF (n + 1) (fun k => if k = 1 then 1 else 2) (fX5_set x x1 x2) (fX6_set v x1 x2) := by
  have e1 : fX5_set x x1 x2 = if fX5_isWithin x1 0 6 = 0 then .inr (1, x) else if fX5_isWithin x2 (fX5_at 7 st1 x1) (fX5_at 7 st2 x1) = 0 then .inr (0, x) else .inl (mkH (fX2_changeSetting (fX5_saveState x 0) x1 x2) (fX5_saveState x 1) (fX5_saveState x 2) (fX5_saveState x 3) (fX5_saveState x 4) (fX5_saveState x 5) (fX5_saveState x 6) (fX5_saveState x 7) (fX5_saveState x 8) (fX5_saveState x 9 0) (fX5_saveState x 9 1) (fX5_saveState x 9 2 0) (fX5_saveState x 9 2 1) (fX5_saveState x 9 2 2), fX2_setting (fX5_saveState x 0) x1) := rfl
  have e2 : fX6_set v x1 x2 = if fX5_isWithin x1 0 6 = 0 then fX6_fails (thr0 v) 1 else if fX6_maySet x1 x2 = 0 then fX6_fails (thr0 v) 2 else (mkM (upd (fX6_save (thr0 v) 0) (74 + x1.toNatClampNeg) x2) (fX6_save (thr0 v) 1) (fX6_save (thr0 v) 2) (fX6_save (thr0 v) 3) (fX6_save (thr0 v) 4) (fX6_save (thr0 v) 5) (fX6_save (thr0 v) 6) (fX6_save (thr0 v) 7) (fX6_save (thr0 v) 8 0) (fX6_save (thr0 v) 8 1) (fX6_save (thr0 v) 8 2) (fX6_save (thr0 v) 8 3) (fX6_save (thr0 v) 8 4) (fX6_save (thr0 v) 8 5) (fX6_save (thr0 v) 8 6) (fX6_save (thr0 v) 8 7) (fX6_save (thr0 v) 8 8), (fX6_save (thr0 v) 0) (74 + x1.toNatClampNeg)) := rfl
  rw [e1, e2]
  rcases iw_cases x1 0 6 (by omega) (by omega) with h | ⟨i, -, hi, rfl, h⟩
  · have h : fX5_isWithin x1 0 6 = 0 := h
    rw [h, if_pos rfl, if_pos rfl]
    exact OKF.out (v := v) R (by omega) rfl rfl rfl rfl rfl rfl rfl rfl (by decide)
  · have h : fX5_isWithin (nI i) 0 6 = 1 := h
    obtain ⟨lo, up, b1, b2, b3, b4, b5, b6⟩ := set_bounds i (by omega)
    rw [h, if_neg one_ne, if_neg one_ne, b3, b4, b5]
    rcases iw_cases x2 lo up b1 (by omega) with g | ⟨c, c1, c2, rfl, g⟩
    · rw [g, if_pos rfl, if_pos rfl]
      exact OKF.out (v := v) R (by omega) rfl rfl rfl rfl rfl rfl rfl rfl (by decide)
    · rw [g, if_neg one_ne, if_neg one_ne, nI_clamp (by omega)]
      obtain ⟨y, ey⟩ : ∃ y, y = fX5_saveState x := ⟨_, rfl⟩
      obtain ⟨u, eu⟩ : ∃ u, u = fX6_save (thr0 v) := ⟨_, rfl⟩
      obtain ⟨S, y0, F, -⟩ := Rel_save (RelH_thr R) ey eu
      rw [← ey, ← eu]
      have hs : fX2_setting (y 0) (nI i) = u 0 (74 + i) := (at7 (y 0 2) i (by omega)).trans (S.1.1.2.2.2.2.1 i (by omega))
      refine OKF.val (Rel_now S (by omega) ⟨RelS_set S.1.1 (by omega) _, Gd_mono (by omega) (Gd_set S.1.2 (by omega) (b6 _ _ S.1.2.1 c1 c2))⟩ rfl rfl rfl rfl rfl rfl) ?_ hs
      show u 8 2 = 0
      rw [F.2.2 2 (by omega) (by omega)]
      rfl
theorem op_append {n : Nat} {x : HV} {v : SV} (R : RelH n x v) (x1 : Int32) : OKF (n + 1) (fun k => if k = 0 then 1 else 2) (fX5_append x x1) (fX6_append v x1) := by
  obtain ⟨q1, ⟨q2, q3⟩, ⟨k, k1, k2, k3, k4⟩, ⟨l, l1, l2, l3, l4⟩, q6⟩ := R.mono (Nat.le_succ n)
  have e1 : fX5_append x x1 = if fX5_isWithin x1 33 126 = 0 then .inr (0, x) else if (if x 9 2 2 < nI 60 then (0 : Int32) else 1) = 0 then .inl (mkH (x 0) (x 1) (x 2) (x 3) (x 4) (x 5) (x 6) (x 7) (x 8) (fX5_put 60 (x 9 0) (x 9 2 2) x1) (x 9 1) (x 9 2 0) (x 9 2 1) (x 9 2 2 + 1), x 9 2 2 + 1) else .inr (2, x) := rfl
  have e2 : fX6_append v x1 = if fX5_isWithin x1 33 126 = 0 then fX6_fails (thr0 v) 1 else if v 8 6 = 60 then fX6_fails (thr0 v) 2 else (mkM (v 0) (v 1) (v 2) (v 3) (upd (v 4) (v 8 6).toNatClampNeg x1) (v 5) (v 6) (v 7) (v 8 0) (v 8 1) 0 (v 8 3) (v 8 4) (v 8 5) (v 8 6 + 1) (v 8 7) (v 8 8), v 8 6 + 1) := rfl
  rw [e1, e2]
  rcases iw_cases x1 33 126 (by omega) (by omega) with h | ⟨c, c1, c2, rfl, h⟩
  · have h : fX5_isWithin x1 33 126 = 0 := h
    rw [h, if_pos rfl, if_pos rfl]
    exact OKF.out (v := v) R (by omega) rfl rfl rfl rfl rfl rfl rfl rfl (by decide)
  · have h : fX5_isWithin (nI c) 33 126 = 1 := h
    rw [h, if_neg one_ne, if_neg one_ne, l2, l3]
    by_cases g : l = 60
    · subst g
      rw [if_neg (nI_nlt (Nat.le_refl _) (by omega)), if_neg one_ne, if_pos (show nI 60 = (60 : Int32) from rfl)]
      exact OKF.out (v := v) R (by omega) rfl rfl rfl rfl rfl rfl rfl rfl (by decide)
    · rw [if_pos (nI_lt (by omega) (by omega)), if_pos rfl, if_neg (show ¬ nI l = (60 : Int32) from fun z => g ((nI_eq (b := 60) (by omega) (by omega)).mp z)), nI_clamp (by omega), put_v 60 _ (by omega) (by omega), nI_1]
      refine OKF.val ⟨q1, ⟨q2, q3⟩, ⟨k, k1, k2, k3, fun j hj => ?_⟩, ⟨l + 1, by omega, rfl, rfl, fun i hi => ?_⟩, q6⟩ rfl rfl
      · exact al6 (P := fun j => j < k → R1 (n + 1) (mkH (x 0) (x 1) (x 2) (x 3) (x 4) (x 5) (x 6) (x 7) (x 8) (upd (x 9 0) l (nI c)) (x 9 1) (x 9 2 0) (x 9 2 1) (nI (l + 1)) (3 + j)) (fun i => v 1 (124 * j + i))) (k4 0) (k4 1) (k4 2) (k4 3) (k4 4) (k4 5) j (by omega) hj
      · show upd (x 9 0) l (nI c) i = upd (v 4) l (nI c) i ∧ ∃ c', 33 ≤ c' ∧ c' ≤ 126 ∧ upd (v 4) l (nI c) i = nI c'
        by_cases z : i = l
        · rw [z, pk_us, pk_us]
          exact ⟨rfl, c, c1, c2, rfl⟩
        · rw [pk_un z, pk_un z]
          exact l4 i (by omega)
