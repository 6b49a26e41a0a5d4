/-! a part of a line, whole -/
def LPt (v : SV) (X k : Nat) (s : Int32 × SV) : Prop :=
  s.1 = nI (mkN 24 (spN (rw v) X k).2.1) ∧ (∀ d, d < 24 → s.2 0 d = nI ((spN (rw v) X k).1 d)) ∧ s.2 4 8 = v 4 8 + nI (spN (rw v) X k).2.2.1 ∧ s.2 4 17 = nI (spN (rw v) X k).2.2.2.1 ∧ s.2 4 20 = nI (spN (rw v) X k).2.2.2.2 ∧ s.2 3 = v 3 ∧ (∀ d, d < 24 → s.2 1 d = v 1 d + nI (inB (rw v) X k d).toNat) ∧ (∀ d, d < 24 → s.2 2 d = v 2 d + nI (inB (rw v) X k d && !(spN (rw v) X k).2.1 d).toNat) ∧ ∀ j, j ≠ 8 → j ≠ 17 → j ≠ 20 → s.2 4 j = v 4 j
theorem SE_rf (v : SV) : SE (rw v) v := ⟨fun i hi => (rw_s hi).symm, rfl, rfl, rfl⟩
theorem bit_in {r : Nat → Int32} {X k d : Nat} (h : X.testBit d = true ∧ prt (aN r 79) (ptN r X) (aoN r) X d < k) : inB r X k d = true := by
  unfold inB
  rw [h.1, decide_eq_true h.2]
  rfl
theorem mbr_dark {r : Nat → Int32} {X k d : Nat} (m : mbr r X k d = true) : (spN r X k).2.1 d = false := by
  cases e : (spN r X k).2.1 d with
  | false => rfl
  | true =>
    have h := (sp_dark k d e).2
    rw [mbr_e] at m
    have h2 := of_decide_eq_true (Bool.and_eq_true_iff.mp m).2
    omega
theorem pr79 (v w : SV) (x6 y6 y8 y9 : Int32) (k : Nat) : bL_prints_79 v x6 y6 y8 k (y9, w) = tL_prints_218 v x6 y6 y8 k (lpF 24 0 (bL_prints_218 v x6 y6 y8 k) (y9, 0, (lpB (mT + 3) (bL_prints_89 v x6 y6 y8 k y9) (1, w)).2)) := rfl
theorem tail218 (v : SV) (x6 y6 y8 : Int32) (k : Nat) (z : Int32 × Int32 × SV) : tL_prints_218 v x6 y6 y8 k z = (z.1, fL_passes z.2.2 (z.2.1 / 10 + 1)) := rfl
theorem LP_end {v w w1 w2 w3 : SV} {X k t : Nat} {y9 z9 z12 : Int32} (a : LPt v X k (y9, w))
    (wt : WT (aN (rw v) 75) (spN (rw v) X k).1 w (wtN (aN (rw v) 75) (aN (rw v) 76) (pN (rw v) X) (mbr (rw v) X k) (spN (rw v) X k).1) w1)
    (ht : HI (mbr (rw v) X k) (spN (rw v) X k).2.1 (pN (rw v) X) (h1N (aN (rw v) 75) (aN (rw v) 76) (pN (rw v) X) (mbr (rw v) X k) (spN (rw v) X k).1) (dkN (aN (rw v) 81)) (spN (rw v) X k).2.2.2.2 w1 24 (z9, z12, w2))
    (et : t = mxN 24 (mbr (rw v) X k) (pN (rw v) X) / 10 + 1)
    (tp : TP (aN (rw v) 75) (h2N (mbr (rw v) X k) (h1N (aN (rw v) 75) (aN (rw v) 76) (pN (rw v) X) (mbr (rw v) X k) (spN (rw v) X k).1) (pN (rw v) X)) w2 t w3) : LPt v X (k + 1) (z9, w3) := by
  subst et
  obtain ⟨a1, a2, a3, a4, a5, a6, a7, a8, a9⟩ := a
  dsimp only at a1 a2 a3 a4 a5 a6 a7 a8 a9
  have hdk := fun d => sp_dark (r := rw v) (X := X) k d
  obtain ⟨b1, b2, b3, b4⟩ := wt
  obtain ⟨h1, h2, h3, h4, h5, h6, h7, h8⟩ := ht
  dsimp only at h1 h2 h3 h4 h5 h6 h7 h8
  obtain ⟨t1, t2, t3, t4, t5, t6⟩ := tp
  refine ⟨?_, t1, ?_, ?_, ?_, ?_, fun d hd => ?_, fun d hd => ?_, fun j j1 j2 j3 => ?_⟩
  · show z9 = _
    rw [h1, spN_s]
    exact congrArg nI (mkN_cg 24 (fun d hd => by rw [decide_eq_true hd, Bool.true_and]; rfl))
  · show w3 4 8 = _
    rw [t2, h8 8 (by omega), b2, a3, spN_s, Int32.add_assoc, Int32.add_assoc, nI_add, nI_add]
    rfl
  · show w3 4 17 = _
    rw [t6 17 (by omega), h8 17 (by omega), b3, a4, nI_add]
    rfl
  · show w3 4 20 = _
    rw [t6 20 (by omega), h4]
    rfl
  · show w3 3 = _
    rw [t5, h7, b4.2.2.1, a6]
  · show w3 1 d = _
    rw [t3, h5 d hd, b4.1, a7 d hd, Int32.add_assoc, decide_eq_true hd, Bool.true_and, inB_s]
  · show w3 2 d = _
    rw [t4, h6 d hd, b4.2.1, a8 d hd, Int32.add_assoc, decide_eq_true hd, Bool.true_and, inB_f _ (fun q => bit_in (hdk d q))]
    rfl
  · show w3 4 j = _
    rw [t6 j j1, h8 j j3, b4.2.2.2 j j1 j2, a9 j j1 j2 j3]
theorem LP_fin {v w w1 : SV} {X k : Nat} {y9 : Int32} (hI : SI (rw v)) (hh0 : ∀ d, d < 24 → aN (rw v) d ≤ 900) (hX : X < 2 ^ 24) (a : LPt v X k (y9, w))
    (wt : WT (aN (rw v) 75) (spN (rw v) X k).1 w (wtN (aN (rw v) 75) (aN (rw v) 76) (pN (rw v) X) (mbr (rw v) X k) (spN (rw v) X k).1) w1) (hs1 : SE (rw v) w1) {z : Int32 × Int32 × SV}
    (ht : HI (mbr (rw v) X k) (spN (rw v) X k).2.1 (pN (rw v) X) (h1N (aN (rw v) 75) (aN (rw v) 76) (pN (rw v) X) (mbr (rw v) X k) (spN (rw v) X k).1) (dkN (aN (rw v) 81)) (spN (rw v) X k).2.2.2.2 w1 24 z) : LPt v X (k + 1) (z.1, fL_passes z.2.2 (z.2.1 / 10 + 1)) := by
  obtain ⟨z9, z12, w2⟩ := z
  obtain ⟨l1, l2⟩ := sp_le hI hh0 hX k
  obtain ⟨-, ⟨e75, c1, c2⟩, ⟨e76, c3, c4⟩, -⟩ := SI_n hI
  have hh2 := h2N_le (c := aN (rw v) 75) (bd := aN (rw v) 76) (p := pN (rw v) X) (m := mbr (rw v) X k) (h := (spN (rw v) X k).1) l1 (fun d => (pN_spec hI X d).2.2) c3 c4 (fun d => mbr_24 hX d)
  have hmx : mxN 24 (mbr (rw v) X k) (pN (rw v) X) ≤ 325 := mxN_le 24 (fun j _ _ => (pN_spec hI X j).2.2)
  have ht2 := ht
  obtain ⟨h1, h2, h3, h4, h5, h6, h7, h8⟩ := ht2
  dsimp only at h1 h2 h3 h4 h5 h6 h7 h8
  have e2 : z12 / 10 + 1 = nI (mxN 24 (mbr (rw v) X k) (pN (rw v) X) / 10 + 1) := by
    rw [h2, show nI (mxN 24 (mbr (rw v) X k) (pN (rw v) X)) / 10 = nI (mxN 24 (mbr (rw v) X k) (pN (rw v) X) / 10) from pk_div (d := 10) (by omega) (by omega) (by omega), nI_1]
  show LPt v X (k + 1) (z9, fL_passes w2 (z12 / 10 + 1))
  rw [e2]
  have tp := passes_t (w0 := w2) (c := aN (rw v) 75) (t := mxN 24 (mbr (rw v) X k) (pN (rw v) X) / 10 + 1) (h := h2N (mbr (rw v) X k) (h1N (aN (rw v) 75) (aN (rw v) 76) (pN (rw v) X) (mbr (rw v) X k) (spN (rw v) X k).1) (pN (rw v) X)) (by omega) (by omega) (by omega) (fun d => by have := hh2 d; omega) ((h8 1 (by omega)).trans ((hs1.1 1 (by omega)).trans e75)) (fun d hd => (h3 d hd).trans (by rw [if_pos hd]))
  exact LP_end a wt ht rfl tp
theorem LP_step {v : SV} {X k : Nat} {y6 y8 : Int32} (hI : SI (rw v)) (hh0 : ∀ d, d < 24 → aN (rw v) d ≤ 900) (hX : X < 2 ^ 24) (hk : k < ptN (rw v) X) {s : Int32 × SV} (a : LPt v X k s) : LPt v X (k + 1) (bL_prints_79 v (nI X) y6 y8 k s) := by
  obtain ⟨y9, w⟩ := s
  have a' := a
  obtain ⟨a1, a2, a3, a4, a5, a6, a7, a8, a9⟩ := a
  dsimp only at a1 a2 a3 a4 a5 a6 a7 a8 a9
  obtain ⟨l1, l2⟩ := sp_le hI hh0 hX k
  have hmd := fun d => mbr_dark (r := rw v) (X := X) (k := k) (d := d)
  have hs : SE (rw v) w := ⟨fun i hi => (a9 i (by omega) (by omega) (by omega)).trans (rw_s hi).symm, a9 7 (by omega) (by omega) (by omega), a9 13 (by omega) (by omega) (by omega), a9 14 (by omega) (by omega) (by omega)⟩
  have hmT : 1000 ≤ mT + 3 := by have : mT = 2147483648 := rfl; omega
  have wt := waits_n (v := v) (y6 := y6) (y8 := y8) (y9 := y9) hI hs hX hk l1 a2 (mT + 3) hmT rfl
  have hs1 := SE_WF hs wt.2.2.2
  have hh1 := h1N_le (c := aN (rw v) 75) (bd := aN (rw v) 76) (p := pN (rw v) X) (m := mbr (rw v) X k) l1
  have ht := heat_n (v := v) (y6 := y6) (y8 := y8) (h := h1N (aN (rw v) 75) (aN (rw v) 76) (pN (rw v) X) (mbr (rw v) X k) (spN (rw v) X k).1) hI hs1 hX hk hh1 l2 wt.1 a1 ((wt.2.2.2.2.2.2 20 (by omega) (by omega)).trans a5) hmd rfl
  rw [pr79, tail218]
  exact LP_fin hI hh0 hX a' wt hs1 ht
