/-- what the law's line comes to -/
def LN (r : Nat → Int32) (X : Nat) (u : SV) : Prop := (∀ k, k < 124 → rw u k = nxt r X k) ∧ u 4 16 = nI (lnT r X) ∧ u 4 17 = nI (spE r X).2.2.2.1 ∧ u 4 18 = nI (ptN r X) ∧ u 4 19 = fnN r X ∧ u 4 20 = nI (spE r X).2.2.2.2
def SH (w u : SV) : Prop := (∀ j, 3 ≤ j → j < 36 → u 3 j = w 3 (j - 3)) ∧ u 0 = w 0 ∧ u 1 = w 1 ∧ u 2 = w 2 ∧ u 4 = w 4
theorem xor_mkN {X : Nat} (hX : X < 2 ^ 24) {D : Nat → Bool} (hD : ∀ d, D d = true → X.testBit d = true) : nI X ^^^ nI (mkN 24 D) = nI (mkN 24 (fun d => X.testBit d && !D d)) := b_ext (fun i hi => by
  rw [b_xor, b_nI _ hi, b_nI _ hi, b_nI _ hi, tb_mkN, tb_mkN]
  by_cases k : i < 24
  · rw [decide_eq_true k, Bool.true_and, Bool.true_and]
    cases e : D i with
    | false => cases X.testBit i <;> rfl
    | true => rw [hD i e]; rfl
  · rw [decide_eq_false k, Nat.testBit_lt_two_pow (Nat.lt_of_lt_of_le hX (Nat.pow_le_pow_right (by omega) (by omega)))]
    rfl)
theorem cnt_smF (p : Nat → Bool) : nI (cntN (mkN 24 p) 24) = smF 24 (fun d => nI (p d).toNat) := by
  rw [← smN_cnt]
  refine (smF_N 24 (fun d hd => ?_)).symm
  rw [tb_mkN, decide_eq_true hd, Bool.true_and]
theorem inB_P {r : Nat → Int32} (hI : SI r) {X d : Nat} (hd : d < 24) : inB r X (ptN r X) d = X.testBit d := by
  unfold inB
  cases e : X.testBit d with
  | false => rfl
  | true => rw [decide_eq_true (pt_lt hI hd e)]; rfl
theorem rw_9 (u : SV) : rw u 24 = u 4 13 ∧ rw u 25 = u 4 14 ∧ rw u 81 = u 4 7 ∧ rw u 82 = u 4 8 ∧ rw u 83 = u 4 9 ∧ rw u 84 = u 4 10 ∧ rw u 85 = u 4 11 ∧ rw u 86 = u 4 12 ∧ rw u 87 = u 4 15 := ⟨rfl, rfl, rfl, rfl, rfl, rfl, rfl, rfl, rfl⟩
theorem al124 {P : Nat → Prop} (h0 : ∀ d, d < 24 → P d) (h24 : P 24) (h25 : P 25) (h26 : ∀ d, d < 24 → P (26 + d)) (h50 : ∀ d, d < 24 → P (50 + d)) (h74 : ∀ i, i < 7 → P (74 + i)) (h81 : P 81) (h82 : P 82) (h83 : P 83) (h84 : P 84) (h85 : P 85) (h86 : P 86) (h87 : P 87) (h88 : ∀ j, j < 36 → P (88 + j)) : ∀ k, k < 124 → P k := by
  intro k hk
  by_cases a : k < 24
  · exact h0 k a
  by_cases a1 : k = 24
  · rw [a1]; exact h24
  by_cases a2 : k = 25
  · rw [a2]; exact h25
  by_cases b : k < 50
  · obtain ⟨d, rfl⟩ : ∃ d, k = 26 + d := ⟨k - 26, by omega⟩
    exact h26 d (by omega)
  by_cases c : k < 74
  · obtain ⟨d, rfl⟩ : ∃ d, k = 50 + d := ⟨k - 50, by omega⟩
    exact h50 d (by omega)
  by_cases e : k < 81
  · obtain ⟨d, rfl⟩ : ∃ d, k = 74 + d := ⟨k - 74, by omega⟩
    exact h74 d (by omega)
  by_cases e1 : k = 81
  · rw [e1]; exact h81
  by_cases e2 : k = 82
  · rw [e2]; exact h82
  by_cases e3 : k = 83
  · rw [e3]; exact h83
  by_cases e4 : k = 84
  · rw [e4]; exact h84
  by_cases e5 : k = 85
  · rw [e5]; exact h85
  by_cases e6 : k = 86
  · rw [e6]; exact h86
  by_cases e7 : k = 87
  · rw [e7]; exact h87
  obtain ⟨j, rfl⟩ : ∃ j, k = 88 + j := ⟨k - 88, by omega⟩
  exact h88 j (by omega)
theorem LN_end {v w w3 w4 u : SV} {X B : Nat} {y9 : Int32} (G : Gd B (rw v)) (hX : X < 2 ^ 24) (a : LPt v X (ptN (rw v) X) (y9, w)) (tp : TP (aN (rw v) 75) (spN (rw v) X (ptN (rw v) X)).1 w (aN (rw v) 80) w3) (sh : SH w3 w4) (f : fin w4 (nI X) (v 4 8) (nI (ptN (rw v) X)) y9 (w4 4 15 + if 12 ≤ w4 4 15 then 0 else 1) u) : LN (rw v) X u := by
  obtain ⟨g1, g2, ⟨g31, g32⟩, ⟨g41, g42⟩, -, -⟩ := G
  obtain ⟨a1, a2, a3, a4, a5, a6, a7, a8, a9⟩ := a
  dsimp only at a1 a2 a3 a4 a5 a6 a7 a8 a9
  obtain ⟨t1, t2, t3, t4, t5, t6⟩ := tp
  obtain ⟨s1, s2, s3, s4, s5⟩ := sh
  obtain ⟨f0, f1, f2, f3, f30, f31, f32, f4, f9, f10, f11, f12, f13, f14, f15, f16, f17, f18, f19, f20⟩ := f
  have hdk := fun d => sp_dark (r := rw v) (X := X) (ptN (rw v) X) d
  have l2 := (sp_le g1 (fun d hd => (g2 d hd).2) hX (ptN (rw v) X)).2
  have ex : nI X ^^^ y9 = nI (mkN 24 (fun d => X.testBit d && !(spE (rw v) X).2.1 d)) := by
    rw [a1]
    exact xor_mkN hX (fun d h => (hdk d h).1)
  have hk : ∀ j, j ≠ 8 → j ≠ 17 → j ≠ 20 → w4 4 j = v 4 j := fun j j1 j2 j3 => by rw [s5, t6 j j1]; exact a9 j j1 j2 j3
  have h20 : w4 4 20 = nI (spE (rw v) X).2.2.2.2 := by rw [s5, t6 20 (by omega)]; exact a5
  have h17 : w4 4 17 = nI (spE (rw v) X).2.2.2.1 := by rw [s5, t6 17 (by omega)]; exact a4
  have h8 : w4 4 8 = v 4 8 + nI (lnT (rw v) X) := by
    rw [s5, t2, a3, Int32.add_assoc, nI_add]
    rfl
  have e86 : v 4 12 = nI (aN (rw v) 86) := g31
  have e87 : v 4 15 = nI (aN (rw v) 87) := g41
  refine ⟨al124 (fun d hd => ?_) ?_ ?_ (fun d hd => ?_) (fun d hd => ?_) (fun i hi => ?_) ?_ ?_ ?_ ?_ ?_ ?_ ?_ (fun j hj => ?_), ?_, ?_, ?_, ?_, ?_⟩
  · rw [rw_h hd, f0, s2, t1 d hd, nx_h hd]
    rfl
  · exact f13
  · exact f14.trans (hk 13 (by omega) (by omega) (by omega))
  · rw [rw_p hd, f1, s3, t3, a7 d hd, nx_p hd, rw_p hd, inB_P g1 hd]
  · rw [rw_f hd, f2, s4, t4, a8 d hd, nx_f hd, rw_f hd, inB_P g1 hd]
    rfl
  · rw [rw_s hi, f4 i (by omega), hk i (by omega) (by omega) (by omega), nx_s (by omega) (by omega), rw_s hi]
  · exact (f4 7 (by omega)).trans (hk 7 (by omega) (by omega) (by omega))
  · exact (f4 8 (by omega)).trans h8
  · exact f9.trans (by rw [hk 9 (by omega) (by omega) (by omega)]; rfl)
  · exact f10.trans (by rw [hk 10 (by omega) (by omega) (by omega)]; rfl)
  · exact f11.trans (by rw [hk 11 (by omega) (by omega) (by omega), h17]; rfl)
  · refine f12.trans ?_
    rw [h20, hk 12 (by omega) (by omega) (by omega), e86, imx2 (by omega) (by show (spE (rw v) X).2.2.2.2 < _; exact Nat.lt_of_le_of_lt l2 (by omega)), nx_86]
  · refine f15.trans ?_
    rw [hk 15 (by omega) (by omega) (by omega), e87, nx_87]
    by_cases q : 12 ≤ aN (rw v) 87
    · rw [if_pos (show (12 : Int32) ≤ nI _ from nI_le (a := 12) q (by omega)), Int32.add_zero, Nat.min_eq_left (by omega)]
      congr 1
      omega
    · rw [if_neg (show ¬ (12 : Int32) ≤ nI _ from nI_ge (b := 12) (by omega) (by omega)), nI_1, Nat.min_eq_right (by omega)]
  · rw [rw_k]
    by_cases j0 : j = 0
    · rw [j0, f30, a1]; exact nx_88.symm
    by_cases j1 : j = 1
    · rw [j1, f31, ex]; exact nx_89.symm
    by_cases j2 : j = 2
    · rw [j2, f32]; exact nx_90.symm
    rw [f3 j (by omega), s1 j (by omega) hj, t5, a6, nx_l (by omega), show 88 + j - 3 = 88 + (j - 3) by omega, rw_k]
  · rw [f16, h8, Int32.add_comm, Int32.add_sub_cancel]
  · exact f17.trans h17
  · exact f18
  · rw [f19, ex, ones_n (mkN_lt _ 24), cnt_smF]
    rfl
  · exact f20.trans h20
theorem pr79t (v : SV) (x6 y6 y8 : Int32) (s : Int32 × SV) : tL_prints_79 v x6 y6 y8 s = tL_prints_416 v x6 y6 y8 s.1 (lpD 33 (bL_prints_416 v x6 y6 y8 s.1) (fL_passes s.2 (s.2 4 6))) := rfl
theorem LN_fin {v : SV} {X B : Nat} (G : Gd B (rw v)) (hX : X < 2 ^ 24) {s : Int32 × SV} (a : LPt v X (ptN (rw v) X) s) : LN (rw v) X (tL_prints_79 v (nI X) (v 4 8) (nI (ptN (rw v) X)) s) := by
  obtain ⟨y9, w⟩ := s
  have a' := a
  obtain ⟨a1, a2, a3, a4, a5, a6, a7, a8, a9⟩ := a'
  dsimp only at a1 a2 a3 a4 a5 a6 a7 a8 a9
  obtain ⟨-, ⟨e75, b1, b2⟩, -, -, -, -, ⟨e80, b3⟩, -⟩ := SI_n G.1
  obtain ⟨l1, l2⟩ := sp_le G.1 (fun d hd => (G.2.1 d hd).2) hX (ptN (rw v) X)
  have ef : w 4 6 = nI (aN (rw v) 80) := (a9 6 (by omega) (by omega) (by omega)).trans e80
  rw [pr79t]
  show LN (rw v) X (tL_prints_416 v (nI X) (v 4 8) (nI (ptN (rw v) X)) y9 (lpD 33 (bL_prints_416 v (nI X) (v 4 8) (nI (ptN (rw v) X)) y9) (fL_passes w (w 4 6))))
  rw [ef]
  have tp := passes_t (w0 := w) (c := aN (rw v) 75) (t := aN (rw v) 80) (h := (spN (rw v) X (ptN (rw v) X)).1) (by omega) (by omega) (by omega) (fun d => by have := l1 d; omega) ((a9 1 (by omega) (by omega) (by omega)).trans e75) a2
  have sh := shift_n (v := v) (x6 := nI X) (y6 := v 4 8) (y8 := nI (ptN (rw v) X)) (y9 := y9) (w := fL_passes w (nI (aN (rw v) 80))) rfl
  exact LN_end G hX a tp sh (fin_n _ _ _ _ _ _)
theorem LP_0 {v : SV} {X B : Nat} (G : Gd B (rw v)) : LPt v X 0 (0, mkL (v 0) (v 1) (v 2) (v 3) (upd (upd (v 4) 17 0) 20 0)) := by
  have hb : ∀ d, inB (rw v) X 0 d = false := fun d => by
    unfold inB
    rw [decide_eq_false (Nat.not_lt_zero _), Bool.and_false]
  refine ⟨?_, fun d hd => ?_, ?_, ?_, ?_, rfl, fun d hd => ?_, fun d hd => ?_, fun j j1 j2 j3 => ?_⟩
  · show (0 : Int32) = nI (mkN 24 (fun _ => false))
    rw [mkN_F, nI_0]
  · show v 0 d = nI (if d < 24 then aN (rw v) d else 0)
    rw [if_pos hd, ← (G.2.1 d hd).1, rw_h hd]
  · show upd (upd (v 4) 17 0) 20 0 8 = v 4 8 + nI 0
    rw [pk_un (by decide), pk_un (by decide), nI_0, Int32.add_zero]
  · show upd (upd (v 4) 17 0) 20 0 17 = nI 0
    rw [pk_un (by decide), pk_us, nI_0]
  · show upd (upd (v 4) 17 0) 20 0 20 = nI 0
    rw [pk_us, nI_0]
  · show v 1 d = v 1 d + nI (inB (rw v) X 0 d).toNat
    rw [hb d]
    show v 1 d = v 1 d + nI 0
    rw [nI_0, Int32.add_zero]
  · show v 2 d = v 2 d + nI (inB (rw v) X 0 d && !false).toNat
    rw [hb d]
    show v 2 d = v 2 d + nI 0
    rw [nI_0, Int32.add_zero]
  · show upd (upd (v 4) 17 0) 20 0 j = v 4 j
    rw [pk_un j3, pk_un j2]
theorem prints_e {v : SV} {X : Nat} (hI : SI (rw v)) (hX : X < 2 ^ 24) : fL_prints v (nI X) = tL_prints_79 v (nI X) (v 4 8) (nI (ptN (rw v) X)) (lpF (ptN (rw v) X) 0 (bL_prints_79 v (nI X) (v 4 8) (nI (ptN (rw v) X))) (0, mkL (v 0) (v 1) (v 2) (v 3) (upd (upd (v 4) 17 0) 20 0))) := by
  have hm := many_n hI
  have hpt := parts_n hI X
  have hp := ptN_le hI X
  unfold fL_prints
  rw [ite_ap (fun z => tL_prints_J32 v (nI X) (v 4 8) z v), hm]
  unfold tL_prints_J32
  rw [ite_ap (fun z => tL_prints_J58 v (nI X) (v 4 8) (fL_ones (nI X) / nI (aoN (rw v))) z v), ones_n hX]
  unfold tL_prints_J58
  rw [hpt, nI_clamp (by omega)]
theorem PLL {v : SV} {X B : Nat} (G : Gd B (rw v)) (hX : X < 2 ^ 24) : LN (rw v) X (fL_prints v (nI X)) := by
  rw [prints_e G.1 hX]
  exact LN_fin G hX (lpF_0 (fun k s => LPt v X k s) (ptN (rw v) X) _ (fun k s hk hs => LP_step G.1 (fun d hd => (G.2.1 d hd).2) hX hk hs) (LP_0 G))
