/-! the reference: the parts of a line -/
def inB (r : Nat → Int32) (X k d : Nat) : Bool := X.testBit d && decide (prt (aN r 79) (ptN r X) (aoN r) X d < k)
theorem inB_s (r : Nat → Int32) (X k d : Nat) : nI (inB r X k d).toNat + nI (mbr r X k d).toNat = nI (inB r X (k + 1) d).toNat := by
  unfold inB mbr memb
  generalize prt (aN r 79) (ptN r X) (aoN r) X d = a
  cases X.testBit d with
  | false => rfl
  | true =>
    rw [Bool.true_and, Bool.true_and, Bool.true_and]
    by_cases h1 : a < k
    · rw [decide_eq_true h1, decide_eq_false (show ¬ a = k by omega), decide_eq_true (show a < k + 1 by omega)]
      rfl
    · by_cases h2 : a = k
      · rw [decide_eq_false h1, decide_eq_true h2, decide_eq_true (show a < k + 1 by omega)]
        rfl
      · rw [decide_eq_false h1, decide_eq_false h2, decide_eq_false (show ¬ a < k + 1 by omega)]
        rfl
theorem inB_f {r : Nat → Int32} {X k d : Nat} {D : Bool} (z : Bool) (hD : D = true → inB r X k d = true) : nI (inB r X k d && !D).toNat + nI (mbr r X k d && !z).toNat = nI (inB r X (k + 1) d && !(D || (mbr r X k d && z))).toNat := by
  unfold inB at hD ⊢
  unfold mbr memb
  generalize prt (aN r 79) (ptN r X) (aoN r) X d = a at hD ⊢
  revert hD
  cases X.testBit d with
  | false => intro _; rfl
  | true =>
    rw [Bool.true_and, Bool.true_and, Bool.true_and]
    by_cases h1 : a < k
    · rw [decide_eq_true h1, decide_eq_false (show ¬ a = k by omega), decide_eq_true (show a < k + 1 by omega)]
      intro _
      cases D <;> cases z <;> rfl
    · intro hD
      have hD : D = false := by
        cases D with
        | false => rfl
        | true => exact absurd (of_decide_eq_true (hD rfl)) h1
      subst hD
      by_cases h2 : a = k
      · rw [decide_eq_false h1, decide_eq_true h2, decide_eq_true (show a < k + 1 by omega)]
        cases z <;> rfl
      · rw [decide_eq_false h1, decide_eq_false h2, decide_eq_false (show ¬ a < k + 1 by omega)]
        cases z <;> rfl
def MR (w0 : SV) (r : Nat → Int32) (X k : Nat) (w : SV) : Prop :=
  (∀ d, d < 24 → w 0 d = nI ((spN r X k).1 d)) ∧ (∀ d, d < 24 → w 0 (26 + d) = r (26 + d) + nI (inB r X k d).toNat) ∧ (∀ d, d < 24 → w 0 (50 + d) = r (50 + d) + nI (inB r X k d && !(spN r X k).2.1 d).toNat) ∧ w 0 82 = r 82 + nI (spN r X k).2.2.1 ∧
  w 8 3 = nI (spN r X k).2.2.2.1 ∧ w 8 4 = nI (mkN 24 (spN r X k).2.1) ∧ w 8 5 = nI (spN r X k).2.2.2.2 ∧ (∀ j, (j = 24 ∨ j = 25 ∨ 74 ≤ j) → j ≠ 82 → w 0 j = r j) ∧ (∀ j, 1 ≤ j → j < 8 → w j = w0 j) ∧ (∀ j, j < 9 → j ≠ 3 → j ≠ 4 → j ≠ 5 → w 8 j = w0 8 j)
theorem aN_e {r r' : Nat → Int32} {k : Nat} (h : r' k = r k) : aN r' k = aN r k := by
  unfold aN
  rw [h]
theorem ptN_congr {r r' : Nat → Int32} (h77 : r' 77 = r 77) (h78 : r' 78 = r 78) (X : Nat) : aoN r' = aoN r ∧ ptN r' X = ptN r X := by
  have e : aoN r' = aoN r := by
    unfold aoN
    rw [aN_e h77, aN_e h78]
  refine ⟨e, ?_⟩
  unfold ptN
  rw [e]
theorem mbr_congr {r r' : Nat → Int32} (h77 : r' 77 = r 77) (h78 : r' 78 = r 78) (h79 : r' 79 = r 79) (X k : Nat) : mbr r' X k = mbr r X k := by
  obtain ⟨e1, e2⟩ := ptN_congr h77 h78 X
  unfold mbr
  rw [e1, e2, aN_e h79]
theorem mr_step {v w0 : SV} {r : Nat → Int32} {X k : Nat} {y2 y3 : Int32} (hI : SI r) (hh0 : ∀ d, d < 24 → aN r d ≤ 900) (hX : X < 2 ^ 24) (hk : k < ptN r X) (w : SV) (hw : MR w0 r X k w) :
    MR w0 r X (k + 1) (bX6_printLine_32 v (nI X) y2 y3 k w) := by
  obtain ⟨c1, c2, c3, c4, c5, c6, c7, c8, c9, c10⟩ := hw
  obtain ⟨-, ⟨h75, b1, b2⟩, ⟨h76, b3, b4⟩, -⟩ := SI_n hI
  obtain ⟨l1, l2⟩ := sp_le hI hh0 hX k
  have ps : ∀ d, 20 ≤ pN r X d ∧ pN r X d ≤ 325 := fun d => (pN_spec hI X d).2
  have hIw : SI (w 0) := SI_congr (fun j j1 j2 => c8 j (by omega) (by omega)) hI
  have q : ∀ j, 74 ≤ j → j < 82 → w 0 j = r j := fun j j1 j2 => c8 j (by omega) (by omega)
  obtain ⟨-, ept⟩ := ptN_congr (q 77 (by omega) (by omega)) (q 78 (by omega) (by omega)) X
  have emb := mbr_congr (q 77 (by omega) (by omega)) (q 78 (by omega) (by omega)) (q 79 (by omega) (by omega)) X k
  have epN : ∀ d, pN (w 0) X d = pN r X d := fun d => pN_congr (c8 24 (by omega) (by omega)) (c8 25 (by omega) (by omega)) (q 74 (by omega) (by omega)) (q 81 (by omega) (by omega)) X d
  have e75 := aN_e (q 75 (by omega) (by omega))
  have e76 := aN_e (q 76 (by omega) (by omega))
  have e81 := aN_e (q 81 (by omega) (by omega))
  have eM : fX6_dotsOfPart w (nI X) (nI k) = nI (mkN 24 (mbr r X k)) := by
    rw [dotsOfPart_6 hIw hX (by rw [ept]; exact hk)]
    show nI (mkN 24 (mbr (w 0) X k)) = _
    rw [emb]
  unfold bX6_printLine_32
  dsimp only
  rw [eM]
  have W := wait_6 (v := v) (w := w) (x2 := y2) (x3 := y3) (kk := k) (X := X) (W := wtN (aN r 75) (aN r 76) (pN r X) (mbr r X k) (spN r X k).1) (h := (spN r X k).1) hIw (mbr r X k) l1 c1 (by
    rw [e75, e76]
    exact mxN_congr 24 (fun d _ => ⟨rfl, by rw [epN d]⟩)) rfl
  obtain ⟨u, eu⟩ : ∃ z, z = lpB (mT + 1) (bX6_printLine_47 v (nI X) y2 y3 k (nI (mkN 24 (mbr r X k)))) w := ⟨_, rfl⟩
  rw [← eu] at W ⊢
  obtain ⟨w1, w2, w3, w4, w5, w6⟩ := W
  rw [e75] at w1
  have hIu : SI (u 0) := SI_congr (fun j j1 j2 => w4 j (by omega) (by omega)) hIw
  have epU : ∀ d, pN (u 0) X d = pN r X d := fun d => (pN_congr (w4 24 (by omega) (by omega)) (w4 25 (by omega) (by omega)) (w4 74 (by omega) (by omega)) (w4 81 (by omega) (by omega)) X d).trans (epN d)
  have epUf : pN (u 0) X = pN r X := funext epU
  have e81u : aN (u 0) 81 = aN r 81 := (aN_e (w4 81 (by omega) (by omega))).trans e81
  have P := printPart_6 (w := u) (X := X) (hot := (spN r X k).2.2.2.2) (h := h1N (aN r 75) (aN r 76) (pN r X) (mbr r X k) (spN r X k).1) hIu (mbr r X k) (spN r X k).2.1 (fun d => h1N_le l1 d) (by omega) w1 (by rw [w6 4 (by omega) (by omega)]; exact c6) (by rw [w6 5 (by omega) (by omega)]; exact c7) rfl
  rw [epUf, e81u] at P
  delta tX6_printLine_47
  dsimp only
  obtain ⟨z, ez⟩ : ∃ z, z = fX6_printPart u (nI X) (nI (mkN 24 (mbr r X k))) := ⟨_, rfl⟩
  rw [← ez] at P ⊢
  obtain ⟨p1, p2, p3, p4, p5, p6, p7, p8, p9⟩ := P
  have lL : mxN 24 (mbr r X k) (pN r X) ≤ 325 := mxN_le 24 (fun d _ _ => (ps d).2)
  have eQ : nI (mxN 24 (mbr r X k) (pN r X)) / 10 + 1 = nI (mxN 24 (mbr r X k) (pN r X) / 10 + 1) := by
    rw [show nI (mxN 24 (mbr r X k) (pN r X)) / 10 = nI (mxN 24 (mbr r X k) (pN r X) / 10) from pk_div (d := 10) (by omega) (by omega) (by omega), nI_1]
  rw [p1, eQ]
  have hl2 := h2N_le (c := aN r 75) (p := pN r X) l1 (fun d => (ps d).2) b3 b4 (mbr_24 (r := r) (k := k) hX)
  obtain ⟨t1, t2, t3⟩ := pu_pass (v := z.1) (c := aN r 75) (t := mxN 24 (mbr r X k) (pN r X) / 10 + 1) (h := h2N (mbr r X k) (h1N (aN r 75) (aN r 76) (pN r X) (mbr r X k) (spN r X k).1) (pN r X)) (by omega) (by omega) (by omega) (fun d => by have := hl2 d; omega) (by rw [p7 75 (by omega), w4 75 (by omega) (by omega), q 75 (by omega) (by omega)]; exact h75) p2
  refine ⟨fun d hd => ?_, fun d hd => ?_, fun d hd => ?_, ?_, ?_, ?_, ?_, fun j j1 j2 => ?_, fun j j1 j2 => ?_, fun j j1 j2 j3 j4 => ?_⟩
  · rw [t1, if_pos hd]
    rfl
  · rw [t1, if_neg (by omega), if_neg (by omega), p3 d hd, w4 (26 + d) (by omega) (by omega), c2 d hd, Int32.add_assoc, inB_s]
  · rw [t1, if_neg (by omega), if_neg (by omega), p4 d hd, w4 (50 + d) (by omega) (by omega), c3 d hd, Int32.add_assoc, inB_f _ (fun hD => by
      obtain ⟨s1, s2⟩ := sp_dark k d hD
      unfold inB
      rw [s1, decide_eq_true s2]
      rfl)]
    rfl
  · rw [t1, if_neg (by omega), if_pos rfl, p7 82 (by omega), w2, c4, Int32.add_assoc, Int32.add_assoc, nI_add, nI_add]
    rfl
  · rw [t3 3 (by omega), p9 3 (by omega) (by omega) (by omega), w3, c5, nI_add]
    rfl
  · rw [t3 4 (by omega), p5]
    rfl
  · rw [t3 5 (by omega), p6]
    rfl
  · rw [t1, if_neg (by omega), if_neg j2, p7 j j1, w4 j (by omega) j2, c8 j j1 j2]
  · rw [t2 j j1 j2, p8 j j1 j2, w5 j j1 j2, c9 j j1 j2]
  · rw [t3 j j1, p9 j j1 j3 j4, w6 j j1 j2, c10 j j1 j2 j3 j4]
