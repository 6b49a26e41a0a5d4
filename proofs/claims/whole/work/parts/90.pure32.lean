/-! print *)-/
def ptE (r : Nat → Int32) (s : SV) : SV := if r 4 = 1 then fX2_printLines s (r 5) (if 1 < r 8 then r 8 else 1) else if r 4 = 2 then fX2_changePaper s (r 7) else if r 4 = 3 then fX2_passTime s (r 8) else if r 4 = 4 then (fX2_printLine s 0).1 else s
theorem mkH_congr0 {a b : SV} (h : a = b) (v1 v2 v3 v4 v5 v6 v7 v8 : SV) (cd rd : Nat → Int32) (s0 s1 s2 : Int32) : mkH a v1 v2 v3 v4 v5 v6 v7 v8 cd rd s0 s1 s2 = mkH b v1 v2 v3 v4 v5 v6 v7 v8 cd rd s0 s1 s2 := by rw [h]
theorem part_5 (s v1 v2 v3 v4 v5 v6 v7 v8 : SV) (cd r : Nat → Int32) (s0 s1 s2 : Int32) : fX5_printPartOfText (mkH s v1 v2 v3 v4 v5 v6 v7 v8 cd r s0 s1 s2) = mkH (ptE r s) v1 v2 v3 v4 v5 v6 v7 v8 cd r s0 s1 s2 := by
  have e : fX5_printPartOfText (mkH s v1 v2 v3 v4 v5 v6 v7 v8 cd r s0 s1 s2) = if r 4 = 1 then mkH (fX2_printLines s (r 5) (if 1 < r 8 then r 8 else 1)) v1 v2 v3 v4 v5 v6 v7 v8 cd r s0 s1 s2 else if r 4 = 2 then mkH (fX2_changePaper s (r 7)) v1 v2 v3 v4 v5 v6 v7 v8 cd r s0 s1 s2 else if r 4 = 3 then mkH (fX2_passTime s (r 8)) v1 v2 v3 v4 v5 v6 v7 v8 cd r s0 s1 s2 else if r 4 = 4 then mkH (fX2_printLine s 0).1 v1 v2 v3 v4 v5 v6 v7 v8 cd r s0 s1 s2 else mkH s v1 v2 v3 v4 v5 v6 v7 v8 cd r s0 s1 s2 := by
    delta fX5_printPartOfText
    rfl
  rw [e]
  unfold ptE
  split
  · rfl
  · split
    · rfl
    · split
      · rfl
      · split <;> rfl
theorem eff_eq {s w v : SV} {y1 : Int32} {B P : Nat} {r : Nat → Int32} {K W T : Int32} (R : RelS s (w 0)) (G : Gd B (w 0)) (hB : B + 20 < 2 ^ 30) (hP : PartOk r K W T) (h5 : w 5 P = K) (h6 : w 6 P = W) (h7 : w 7 P = T) {u : SV} (hu : u = bX6_print_32 v y1 P w) : RelS (ptE r s) (u 0) ∧ Gd (B + 20) (u 0) ∧ FRL w u := by
  have e : u = if K = 0 then (fX6_printSome w W T).1 else if K = 1 then (fX6_paperNow w W).1 else fX6_pass w W := by
    rw [hu, ← h5, ← h6, ← h7]
    delta bX6_print_32
    dsimp only
  unfold ptE
  rcases hP with ⟨p1, p2, X, t, p3, p4, p5, p6, p7, p8, p9⟩ | ⟨p1, p2, p, p3, p4, p5⟩ | ⟨p1, p2, t, p3, p4, p5⟩ | ⟨p1, p2, p3, p4⟩
  · rw [p2, if_pos rfl, p7, p8] at e
    rw [if_pos p1, p6, p9]
    obtain ⟨z, ez⟩ : ∃ z, z = fX6_printSome w (nI X) (nI t) := ⟨_, rfl⟩
    rw [← ez] at e
    obtain ⟨k1, k2, k3, -⟩ := lines_eq R G p3 (by omega) (by omega) rfl ez
    rw [e]
    exact ⟨k1, Gd_mono (by omega) k2, k3⟩
  · rw [p2, if_neg one_ne, if_pos rfl, p5] at e
    rw [p1, if_neg (by decide), if_pos rfl, p4]
    obtain ⟨z, ez⟩ : ∃ z, z = fX6_paperNow w (nI p) := ⟨_, rfl⟩
    rw [← ez] at e
    obtain ⟨k1, k2, k3, -⟩ := paper_eq R G p3 rfl ez
    rw [e]
    exact ⟨k1, Gd_mono (by omega) k2, k3⟩
  · rw [p2, if_neg (by decide), if_neg (by decide), p5] at e
    rw [p1, if_neg (by decide), if_neg (by decide), if_pos rfl, p4]
    obtain ⟨k1, k2, k3⟩ := time_eq R G (t := t) (by omega) rfl e
    exact ⟨k1, Gd_mono (by omega) k2, k3⟩
  · rw [p2, if_pos rfl, p3, p4] at e
    rw [p1, if_neg (by decide), if_neg (by decide), if_neg (by decide), if_pos rfl]
    obtain ⟨z, ez⟩ : ∃ z, z = fX6_printLine w (nI 0) := ⟨_, rfl⟩
    have e1 : (fX6_printSome w 0 1).1 = z.1 := by
      rw [ez, nI_0]
      unfold fX6_printSome tX6_printSome_10
      dsimp only
      rw [show (1 : Int32).toNatClampNeg = 1 by decide, lpF_one]
      delta bX6_printSome_10
      dsimp only
    rw [e1] at e
    obtain ⟨k1, k2, k3, -⟩ := line_eq R G (X := 0) (by omega) (by omega) rfl ez
    rw [e]
    refine ⟨?_, Gd_mono (by omega) k2, k3⟩
    rw [nI_0] at k1
    exact k1
theorem lpF_snoc {σ : Type} (n : Nat) (b : Nat → σ → σ) (s : σ) : lpF (n + 1) 0 b s = b n (lpF n 0 b s) := by
  rw [lpF_add n 1, Nat.zero_add]
  rfl
theorem print_loop {c : Nat → Int32} {l : Nat} (hl : l ≤ 60) {x0 : HV} {y1 z1 : Int32} {s0 v1 v2 v3 v4 v5 v6 v7 v8 w0 v : SV} {cd r00 : Nat → Int32} {q0 q1 : Int32} {B : Nat} (hcd : ∀ i, i < l → cd i = c i) (R : RelS s0 (w0 0)) (G : Gd B (w0 0)) (hB : B + 20 * 61 < 2 ^ 30) :
    ∀ (j P : Nat) (r : Nat → Int32), j ≤ l → CP c r00 (w0 5) (w0 6) (w0 7) j P r → ∃ S, lpF j 0 (bX5_print_65 x0 y1) (mkH s0 v1 v2 v3 v4 v5 v6 v7 v8 cd r00 q0 q1 (nI l)) = mkH S v1 v2 v3 v4 v5 v6 v7 v8 cd r q0 q1 (nI l) ∧ RelS S ((lpF P 0 (bX6_print_32 v z1) w0) 0) ∧ Gd (B + 20 * P) ((lpF P 0 (bX6_print_32 v z1) w0) 0) ∧ FRL w0 (lpF P 0 (bX6_print_32 v z1) w0) := by
  intro j
  induction j with
  | zero =>
    rintro P r _ ⟨rfl, rfl⟩
    exact ⟨s0, rfl, R, G, FRL.rf w0⟩
  | succ j ih =>
    rintro P r hj ⟨r1, h1, h2⟩
    have ec : ∀ S : SV, fX0_codeAt (mkB ((mkH S v1 v2 v3 v4 v5 v6 v7 v8 cd r1 q0 q1 (nI l)) 9 0) ((mkH S v1 v2 v3 v4 v5 v6 v7 v8 cd r1 q0 q1 (nI l)) 9 2 2)) (nI j) = c j := fun S => (atN cd (by omega) (by omega)).trans (hcd j (by omega))
    rcases h2 with ⟨h2, h3⟩ | ⟨h2, P', h3, h4, h5⟩
    · obtain ⟨S, k1, k2, k3, k4⟩ := ih P r1 (by omega) h3
      refine ⟨S, ?_, k2, k3, k4⟩
      rw [lpF_snoc, k1]
      delta bX5_print_65
      dsimp only
      rw [ec S, if_neg h2]
      show mkH S v1 v2 v3 v4 v5 v6 v7 v8 cd (fX1_take r1 (c j)).1 q0 q1 (nI l) = _
      rw [h1]
    · subst h3
      obtain ⟨S, k1, k2, k3, k4⟩ := ih P' r1 (by omega) h4
      have hle := CP_le _ _ _ h4
      obtain ⟨z, ez⟩ : ∃ z, z = lpF P' 0 (bX6_print_32 v z1) w0 := ⟨_, rfl⟩
      have e1 : lpF (P' + 1) 0 (bX6_print_32 v z1) w0 = bX6_print_32 v z1 P' z := by rw [lpF_snoc, ← ez]
      rw [← ez] at k2 k3 k4
      obtain ⟨m1, m2, m3⟩ := eff_eq (P := P') (v := v) (y1 := z1) k2 k3 (by omega) h5 (by rw [k4.1 5 (by omega) (by omega)]) (by rw [k4.1 6 (by omega) (by omega)]) (by rw [k4.1 7 (by omega) (by omega)]) rfl
      rw [e1]
      refine ⟨ptE r1 S, ?_, m1, Gd_mono (by omega) m2, k4.tr m3⟩
      rw [lpF_snoc, k1]
      delta bX5_print_65
      dsimp only
      rw [ec S, if_pos h2, part_5]
      show mkH (ptE r1 S) v1 v2 v3 v4 v5 v6 v7 v8 cd (fX1_take r1 (c j)).1 q0 q1 (nI l) = _
      rw [h1]
theorem op_print {n : Nat} {x : HV} {v : SV} (R : RelH n x v) (hn : n < 512) : OKF (n + 1) (fun _ => 1) (fX5_print x) (fX6_print v) := by
  obtain ⟨l, l1, l2, l3, l4⟩ := R.2.2.2.1
  have hw := R.2.2.2.2
  obtain ⟨u, eu⟩ : ∃ u, u = fX6_arePrints (thr0 v) := ⟨_, rfl⟩
  obtain ⟨j, P, r, K, W, T, h1, h2, h3, h4⟩ := ap_sync (c := v 4) (l := l) (v := thr0 v) (m := x 9 1 1) (w := x 9 1 2) (k := x 9 1 3) (p := x 9 1 7) (x := x 9 1 9) l1 (fun i hi => (l4 i hi).2) (fun _ _ => rfl) l3 eu
  obtain ⟨s1, s2⟩ := rue_sync (r9 := x 9 1) (f := x 9 0) l1 (fun i hi => (l4 i hi).1) h1 h3
  obtain ⟨f, fR⟩ := ap_spec (thr0 v) (le_60 l3 l1)
  rw [← eu] at f fR
  have hr : (r 2).toNatClampNeg < 8 := CP_W (r00 := mkR 0 (x 9 1 1) (x 9 1 2) (x 9 1 3) 0 0 0 (x 9 1 7) 0 (x 9 1 9)) hw j P r h1
  have R2 := RelH_X (RelH_thr R) f
  have e6 : fX6_print v = if u.2 = 0 then ((fX6_fails u.1 1).1, (fX6_fails u.1 1).2) else tX6_print_32 v ((fX6_save u.1 0) 83) (lpF ((fX6_save u.1 8 8).toNatClampNeg) 0 (bX6_print_32 v ((fX6_save u.1 0) 83)) (fX6_save u.1)) := by
    rw [eu]
    unfold fX6_print thr0
    dsimp only
  obtain ⟨q, eq⟩ : ∃ q, q = fX1_readUntilError (x 9 1) (mkB (x 9 0) (x 9 2 2)) := ⟨_, rfl⟩
  obtain ⟨xq, exq⟩ : ∃ xq, xq = mkH (x 0) (x 1) (x 2) (x 3) (x 4) (x 5) (x 6) (x 7) (x 8) (x 9 0) q.1 (x 9 2 0) (x 9 2 1) (x 9 2 2) := ⟨_, rfl⟩
  have e5 : fX5_print x = if q.2 < x 9 2 2 then .inr (0, xq) else if fX1_isComplete q.1 = 0 then .inr (0, xq) else tX5_print_65 x (fX5_saveState xq 0 8 2) (lpF ((x 9 2 2).toNatClampNeg) 0 (bX5_print_65 x (fX5_saveState xq 0 8 2)) (mkH (fX5_saveState xq 0) (fX5_saveState xq 1) (fX5_saveState xq 2) (fX5_saveState xq 3) (fX5_saveState xq 4) (fX5_saveState xq 5) (fX5_saveState xq 6) (fX5_saveState xq 7) (fX5_saveState xq 8) (fX5_saveState xq 9 0) (fX1_beginPart (fX5_saveState xq 9 1)) (fX5_saveState xq 9 2 0) (fX5_saveState xq 9 2 1) (fX5_saveState xq 9 2 2))) := by
    rw [exq, eq]
    unfold fX5_print
    dsimp only
  have hfail : ∀ hq : (q.1 2).toNatClampNeg < 8, u.2 = 0 → (q.2 < x 9 2 2 ∨ (¬ q.2 < x 9 2 2 ∧ fX1_isComplete q.1 = 0)) → OKF (n + 1) (fun _ => 1) (fX5_print x) (fX6_print v) := by
    intro hq hu0 hc
    have e5' : fX5_print x = .inr (0, xq) := by
      rw [e5]
      rcases hc with hc | ⟨hc, hc2⟩
      · rw [if_pos hc]
      · rw [if_neg hc, if_pos hc2]
    rw [e5', e6, hu0, if_pos rfl]
    have R3 : RelH n xq u.1 := by
      rw [exq]
      exact RelH_rd R2 hq
    exact OKF.out (v := u.1) R3 (by omega) rfl rfl rfl rfl rfl rfl rfl rfl (by decide)
  have eqL : q = fX1_readUntilError (x 9 1) (mkB (x 9 0) (nI l)) := by rw [eq, l2]
  rcases h4 with ⟨h4, h5, hcp, -⟩ | ⟨h4, h5⟩
  · -- it is prints
    have eq1 : q = (r, nI l) := eqL.trans (s1 h5)
    have q1 : q.1 = r := by rw [eq1]
    have q2 : q.2 = nI l := by rw [eq1]
    have Rq : RelH n xq u.1 := by
      rw [exq]
      exact RelH_rd R2 (by rw [q1]; exact hr)
    obtain ⟨y, ey⟩ : ∃ y, y = fX5_saveState xq := ⟨_, rfl⟩
    obtain ⟨w, ew⟩ : ∃ w, w = fX6_save u.1 := ⟨_, rfl⟩
    obtain ⟨S, y0, F, y90, y91, y92⟩ := Rel_save Rq ey ew
    have y91' : y 9 1 = r := by rw [y91, exq]; exact q1
    have y90' : y 9 0 = x 9 0 := by rw [y90, exq]; rfl
    have y92' : y 9 2 2 = nI l := by rw [y92, exq]; exact l2
    rw [e5, e6, q2, q1, l2, if_neg (nI_nlt (Nat.le_refl _) (by omega)), hcp, if_neg one_ne, h4, if_neg one_ne, ← ey, ← ew, y91', y90', y92', nI_clamp (by omega)]
    have eb : fX1_beginPart r = mkR 0 (r 1) (r 2) (r 3) 0 0 0 (r 7) 0 (r 9) := rfl
    obtain ⟨j', P', r', K', W', T', g1, g2, g3, g4⟩ := ap_sync (c := v 4) (l := l) (v := thr0 v) (m := r 1) (w := r 2) (k := r 3) (p := r 7) (x := r 9) l1 (fun i hi => (l4 i hi).2) (fun _ _ => rfl) l3 eu
    rcases g4 with ⟨-, g5, g6, rfl, rfl, rfl, g7, g8⟩ | ⟨g4, -⟩
    · subst g5
      have w5 : w 5 = u.1 5 := F.2.1 5 (by omega) (by omega)
      have w6 : w 6 = u.1 6 := F.2.1 6 (by omega) (by omega)
      have w7 : w 7 = u.1 7 := F.2.1 7 (by omega) (by omega)
      have w88 : w 8 8 = nI (P' + 1) := (F.2.2 8 (by omega) (by omega)).trans g8
      have hP15 : P' + 1 ≤ 15 := by
        have hR := fR (by rw [h4]; decide)
        have a1 := hR.2.1.2
        rw [g8, g2] at a1
        have hle := CP_le _ _ _ g1
        rw [nI_clamp (by omega), nI_clamp (by omega)] at a1
        omega
      rw [← w5, ← w6, ← w7] at g1
      obtain ⟨Sj, k1, k2, k3, k4⟩ := print_loop (x0 := x) (y1 := y 0 8 2) (z1 := w 0 83) (v := v) (s0 := y 0) (v1 := y 1) (v2 := y 2) (v3 := y 3) (v4 := y 4) (v5 := y 5) (v6 := y 6) (v7 := y 7) (v8 := y 8) (w0 := w) (cd := x 9 0) (q0 := y 9 2 0) (q1 := y 9 2 1) (c := v 4) l1 (fun i hi => (l4 i hi).1) S.1.1 S.1.2 (by omega) j' P' r' (Nat.le_refl _) g1
      obtain ⟨z, ez⟩ : ∃ z, z = lpF P' 0 (bX6_print_32 v (w 0 83)) w := ⟨_, rfl⟩
      rw [← ez] at k2 k3 k4
      rw [← w5, ← w6, ← w7] at g7
      obtain ⟨m1, m2, m3⟩ := eff_eq (P := P') (v := v) (y1 := w 0 83) k2 k3 (by omega) g7 (by rw [k4.1 5 (by omega) (by omega)]) (by rw [k4.1 6 (by omega) (by omega)]) (by rw [k4.1 7 (by omega) (by omega)]) rfl
      obtain ⟨z2, ez2⟩ : ∃ z2, z2 = bX6_print_32 v (w 0 83) P' z := ⟨_, rfl⟩
      rw [← ez2] at m1 m2 m3
      have el : lpF ((w 8 8).toNatClampNeg) 0 (bX6_print_32 v (w 0 83)) w = z2 := by rw [w88, nI_clamp (by omega), lpF_snoc, ← ez, ez2]
      rw [eb, k1, el]
      have fz := k4.tr m3
      have Rz := Rel_nowF S (Nat.le_succ n) ⟨m1, Gd_mono (by omega) m2⟩ fz
      unfold tX5_print_65 tX6_print_32
      dsimp only
      rw [part_5]
      refine OKF.val ?_ ?_ ?_
      · obtain ⟨b1, b2, ⟨k, c1, c2, c3, c4⟩, b4, b5⟩ := Rz
        refine ⟨b1, b2, ⟨k, c1, c2, c3, fun i hi => ?_⟩, ⟨0, by omega, nI_0.symm, nI_0.symm, fun i hi => absurd hi (Nat.not_lt_zero i)⟩, ?_⟩
        · exact al6 (P := fun i => i < k → R1 (n + 1) (mkH (ptE r' Sj) (y 1) (y 2) (y 3) (y 4) (y 5) (y 6) (y 7) (y 8) (x 9 0) r' (y 9 2 0) (y 9 2 1) 0 (3 + i)) (fun a => z2 1 (124 * i + a))) (c4 0) (c4 1) (c4 2) (c4 3) (c4 4) (c4 5) i (by omega) hi
        · exact CP_W (r00 := mkR 0 (r 1) (r 2) (r 3) 0 0 0 (r 7) 0 (r 9)) hr j' P' r' g1
      · show z2 8 2 = 0
        rw [fz.2 2 (by omega) (by omega) (by omega) (by omega), F.2.2 2 (by omega) (by omega), f.2 2 (by omega)]
        rfl
      · show ptE r' Sj 8 2 - y 0 8 2 = z2 0 83 - w 0 83
        rw [m1.2.2.2.2.2.1.2.2.1, S.1.1.2.2.2.2.2.1.2.2.1]
    · exact absurd (g4.symm.trans h4) (by decide)
  · rcases h5 with ⟨h5, h6⟩ | ⟨h5, h6⟩
    · have eq1 := eqL.trans (s2 h5 h6)
      refine hfail (by rw [eq1]; exact W_take _ hr) h4 (Or.inl ?_)
      rw [eq1, l2]
      exact nI_lt h5 (by omega)
    · have eq1 := eqL.trans (s1 h5)
      refine hfail (by rw [eq1]; exact hr) h4 (Or.inr ⟨?_, ?_⟩)
      · rw [eq1, l2]
        exact nI_nlt (Nat.le_refl _) (by omega)
      · rw [eq1]
        exact h6
/-! darkness, mean heat *)-/
theorem op_darkness {n : Nat} {x : HV} {v : SV} (R : RelH n x v) (hn : n < 512) : RelH (n + 1) x (fX6_darkness v).1 ∧ fX5_darkness x = (fX6_darkness v).2 ∧ FP.Core.val64 (fX6_darkness v).2 ≠ .nan := by
  obtain ⟨h1, -, h3⟩ := share_eq (w := thr0 v) R.1.1 R.1.2 (by omega)
  exact ⟨RelH_thr (R.mono (Nat.le_succ n)), h1, h3⟩
theorem op_meanHeat {n : Nat} {x : HV} {v : SV} (R : RelH n x v) : RelH (n + 1) x (fX6_meanHeat v).1 ∧ fX5_meanHeat x = (fX6_meanHeat v).2 := by
  obtain ⟨h1, -⟩ := mean_eq (w := thr0 v) R.1.1 R.1.2
  exact ⟨RelH_thr (R.mono (Nat.le_succ n)), h1⟩
