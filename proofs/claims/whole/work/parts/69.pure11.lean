/-! the reference: the dots of a part, whether it is cool, its wait, its printing -/
theorem pN_congr {r r' : Nat → Int32} (h24 : r' 24 = r 24) (h25 : r' 25 = r 25) (h74 : r' 74 = r 74) (h81 : r' 81 = r 81) (X d : Nat) : pN r' X d = pN r X d := by
  unfold pN psN
  rw [h24, h25, h74, h81]
theorem pulse_6 {w : SV} (hI : SI (w 0)) (X d : Nat) : fX6_pulse w (nI X) (nI d) = nI (pN (w 0) X d) := by
  obtain ⟨-, -, -, -, -, -, -, h1, h2⟩ := SI_n hI
  unfold fX6_pulse
  rw [pulseBy_pl h1 h2]
  exact (pN_spec hI X d).1
theorem darkHeat_6 {w : SV} (hI : SI (w 0)) : fX6_darkHeat w = nI (dkN (aN (w 0) 81)) := by
  obtain ⟨-, -, -, -, -, -, -, h1, h2⟩ := SI_n hI
  unfold fX6_darkHeat
  rw [h1]
  generalize aN (w 0) 81 = p at h2 ⊢
  match p, h2 with
  | 0, _ => rfl
  | 1, _ => rfl
  | 2, _ => rfl
  | p + 3, h => exact absurd h (by omega)
theorem or0 (x : Int32) : x ||| 0 = x := Int32.or_zero
theorem dotsOfPart_6 {w : SV} {X k : Nat} (hI : SI (w 0)) (hX : X < 2 ^ 24) (hk : k < ptN (w 0) X) : fX6_dotsOfPart w (nI X) (nI k) = nI (mkN 24 (memb (aN (w 0) 79) (ptN (w 0) X) (aoN (w 0)) X k)) := by
  obtain ⟨-, -, -, -, -, ⟨h79, hw1⟩, -⟩ := SI_n hI
  obtain ⟨ha, ha2⟩ := aoN_le hI
  have hp := ptN_le hI X
  unfold fX6_dotsOfPart tX6_dotsOfPart_15
  dsimp only
  have h := lpF_0 (fun i s => s = (nI (mkN i (memb (aN (w 0) 79) (ptN (w 0) X) (aoN (w 0)) X k)), nI (cntN X i))) (b := bX6_dotsOfPart_15 w (nI X) (nI k)) 24 (0, 0) ?_ (by rw [← nI_0]; rfl)
  · rw [h]
  · rintro d s hd rfl
    have hc := cntN_le X d
    unfold bX6_dotsOfPart_15
    dsimp only
    rw [bit_eq, bitOf_nI (by omega) hd, atOnce_6 hI, partsOf_6 hI (by omega), h79]
    generalize aN (w 0) 79 = ww at hw1 ⊢
    generalize aoN (w 0) = ao at ha ha2 ⊢
    generalize ptN (w 0) X = parts at hp hk ⊢
    by_cases hb : X.testBit d = true
    · rw [hb, if_pos (by decide), cntN_t hb]
      have e : ∀ z : Nat, prt ww parts ao X d = z → z < 2 ^ 31 → (if nI z = nI k then tX6_dotsOfPart_J74 w (nI X) (nI k) d (nI (mkN d (memb ww parts ao X k))) (nI (cntN X d)) 1 else tX6_dotsOfPart_J74 w (nI X) (nI k) d (nI (mkN d (memb ww parts ao X k))) (nI (cntN X d)) 0) = (nI (mkN (d + 1) (memb ww parts ao X k)), nI (cntN X d + 1)) := by
        intro z hz hz2
        unfold tX6_dotsOfPart_J74
        rw [mkN_step _ d (by omega), nI_1]
        by_cases q : z = k
        · rw [if_pos (by rw [q]), if_neg (by decide), if_pos (show memb ww parts ao X k d = true by unfold memb; rw [hb, hz, decide_eq_true q]; rfl)]
        · rw [if_neg (fun z2 => q ((nI_eq hz2 (by omega)).mp z2)), if_pos rfl, if_neg (show ¬ memb ww parts ao X k d = true by unfold memb; rw [hz, decide_eq_false q, Bool.and_false]; decide)]
      by_cases q : ww = 0
      · rw [if_pos (by rw [q]; rfl), pk_div (by omega) (by omega) (by omega)]
        exact e _ (by unfold prt; rw [if_neg (by omega)]) (Nat.lt_of_le_of_lt (Nat.div_le_self _ _) (by omega))
      · rw [if_neg (nI_ne0 (by omega) (by omega)), pk_rem (by omega) (by omega) (by omega)]
        exact e _ (by unfold prt; rw [if_pos (by omega)]) (Nat.lt_of_lt_of_le (Nat.mod_lt _ (by omega)) (by omega))
    · have hb := eq_false_of_ne_true hb
      rw [hb, if_neg (by decide), cntN_f hb, mkN_step _ d (by omega), if_neg (show ¬ memb ww parts ao X k d = true by unfold memb; rw [hb, Bool.false_and]; decide), or0]
theorem wN_0 {c m h : Nat} : wN c m h = 0 ↔ h ≤ m := by
  have h1 := wN_c (c := c) (m := m) (h := h) (i := 0)
  rw [Nat.le_zero] at h1
  exact h1.symm
theorem wN_sub (c m h j : Nat) : wN c m (coolN c j h) = wN c m h - j := by
  have key : ∀ i, wN c m (coolN c j h) ≤ i ↔ wN c m h - j ≤ i := fun i => by
    rw [← wN_c, ← coolN_add, wN_c]
    omega
  exact Nat.le_antisymm ((key _).mpr (Nat.le_refl _)) ((key _).mp (Nat.le_refl _))
theorem mxN_sub (m : Nat → Bool) (f : Nat → Nat) (j n : Nat) : mxN n m (fun d => f d - j) = mxN n m f - j := by
  induction n with
  | zero => exact (Nat.zero_sub j).symm
  | succ n ih =>
    by_cases q : m n = true
    · rw [mxN_t q, mxN_t q, ih]
      omega
    · rw [mxN_f q, mxN_f q, ih]
theorem isCool_6 {w : SV} {X : Nat} {h : Nat → Nat} (hI : SI (w 0)) (m : Nat → Bool) (hh : ∀ d, h d ≤ 900) (h0 : ∀ d, d < 24 → w 0 d = nI (h d)) :
    fX6_isCool w (nI X) (nI (mkN 24 m)) = if mxN 24 m (fun d => wN (aN (w 0) 75) (aN (w 0) 76 - pN (w 0) X d) (h d)) = 0 then 1 else 0 := by
  obtain ⟨-, -, ⟨h76, b1, b2⟩, -⟩ := SI_n hI
  unfold fX6_isCool tX6_isCool_5
  dsimp only
  refine lpF_0 (fun i s => s = if mxN i m (fun d => wN (aN (w 0) 75) (aN (w 0) 76 - pN (w 0) X d) (h d)) = 0 then 1 else 0) 24 1 ?_ rfl
  rintro d s hd rfl
  unfold bX6_isCool_5
  dsimp only
  rw [bit_eq, bit_mkN m hd, pulse_6 hI, h0 d hd, nI_add, h76]
  have hw := wN_0 (c := aN (w 0) 75) (m := aN (w 0) 76 - pN (w 0) X d) (h := h d)
  obtain ⟨-, p1, p2⟩ := pN_spec hI X d
  have hhd := hh d
  generalize hf : (fun d => wN (aN (w 0) 75) (aN (w 0) 76 - pN (w 0) X d) (h d)) = f
  have hfd : f d = wN (aN (w 0) 75) (aN (w 0) 76 - pN (w 0) X d) (h d) := by rw [← hf]
  by_cases z : mxN d m f = 0
  · rw [if_pos z, if_neg (by decide)]
    by_cases q : m d = true
    · rw [if_neg (show ¬ nI (m d).toNat = 0 by rw [q]; decide), mxN_t q, z, Nat.zero_max, hfd]
      by_cases y : h d + pN (w 0) X d ≤ aN (w 0) 76
      · rw [if_neg (nI_nlt y (by omega)), if_pos (hw.mpr (by omega))]
      · rw [if_pos (nI_lt (by omega) (by omega)), if_neg (fun y2 => y (by have := hw.mp y2; omega))]
    · rw [if_pos (show nI (m d).toNat = 0 by rw [eq_false_of_ne_true q]; decide), mxN_f q, if_pos z]
  · rw [if_neg z, if_pos rfl]
    by_cases q : m d = true
    · rw [mxN_t q, if_neg (by omega)]
    · rw [mxN_f q, if_neg z]
theorem wait_6 {v w : SV} {x2 x3 : Int32} {kk X W : Nat} {h : Nat → Nat} (hI : SI (w 0)) (m : Nat → Bool) (hh : ∀ d, h d ≤ 900) (h0 : ∀ d, d < 24 → w 0 d = nI (h d)) (hW : W = mxN 24 m (fun d => wN (aN (w 0) 75) (aN (w 0) 76 - pN (w 0) X d) (h d))) {u : SV} (hu : u = lpB (mT + 1) (bX6_printLine_47 v (nI X) x2 x3 kk (nI (mkN 24 m))) w) :
    (∀ d, d < 24 → u 0 d = nI (coolN (aN (w 0) 75) W (h d))) ∧ u 0 82 = w 0 82 + nI W ∧ u 8 3 = w 8 3 + nI W ∧ (∀ k, 24 ≤ k → k ≠ 82 → u 0 k = w 0 k) ∧ (∀ k, 1 ≤ k → k < 8 → u k = w k) ∧ (∀ k, k < 9 → k ≠ 3 → u 8 k = w 8 k) := by
  have hmT : mT = 2147483648 := rfl
  have hW2 : W ≤ 900 := by
    rw [hW]
    exact mxN_le 24 (fun d _ _ => Nat.le_trans (wN_le _ _ _) (hh d))
  obtain ⟨-, ⟨h75, c1, c2⟩, -⟩ := SI_n hI
  rw [hu]
  refine lpB_ind (Q := fun u => (∀ d, d < 24 → u 0 d = nI (coolN (aN (w 0) 75) W (h d))) ∧ u 0 82 = w 0 82 + nI W ∧ u 8 3 = w 8 3 + nI W ∧ (∀ k, 24 ≤ k → k ≠ 82 → u 0 k = w 0 k) ∧ (∀ k, 1 ≤ k → k < 8 → u k = w k) ∧ (∀ k, k < 9 → k ≠ 3 → u 8 k = w 8 k))
    (fun i u => (∀ d, d < 24 → u 0 d = nI (coolN (aN (w 0) 75) i (h d))) ∧ u 0 82 = w 0 82 + nI i ∧ u 8 3 = w 8 3 + nI i ∧ (∀ k, 24 ≤ k → k ≠ 82 → u 0 k = w 0 k) ∧ (∀ k, 1 ≤ k → k < 8 → u k = w k) ∧ (∀ k, k < 9 → k ≠ 3 → u 8 k = w 8 k)) W ?_ ?_ (mT + 1) 0 w (Nat.zero_le _) (by omega) ?_
  · intro i s hi hs
    obtain ⟨a1, a2, a3, a4, a5, a6⟩ := hs
    have hIs : SI (s 0) := SI_congr (fun k k1 k2 => a4 k (by omega) (by omega)) hI
    have hc := isCool_6 (X := X) hIs m (h := fun d => coolN (aN (w 0) 75) i (h d)) (fun d => Nat.le_trans (coolN_le _ _ _) (hh d)) a1
    have e1 : mxN 24 m (fun d => wN (aN (s 0) 75) (aN (s 0) 76 - pN (s 0) X d) (coolN (aN (w 0) 75) i (h d))) = W - i := by
      rw [hW, ← mxN_sub]
      refine mxN_congr 24 (fun d hd => ⟨rfl, ?_⟩)
      rw [pN_congr (a4 24 (by omega) (by omega)) (a4 25 (by omega) (by omega)) (a4 74 (by omega) (by omega)) (a4 81 (by omega) (by omega))]
      unfold aN
      rw [a4 75 (by omega) (by omega), a4 76 (by omega) (by omega)]
      exact wN_sub _ _ _ _
    rw [e1, if_neg (by omega)] at hc
    have b := pu_pass (v := s) (c := aN (w 0) 75) (t := 1) (h := fun d => coolN (aN (w 0) 75) i (h d)) (by omega) (by omega) (by omega) (fun d => Nat.lt_of_le_of_lt (Nat.le_trans (coolN_le _ _ _) (hh d)) (by omega)) (by rw [a4 75 (by omega) (by omega)]; exact h75) a1
    obtain ⟨t, et⟩ : ∃ z, z = fX6_pass s (nI 1) := ⟨_, rfl⟩
    rw [← et] at b
    obtain ⟨b1, b2, b3⟩ := b
    have eb : bX6_printLine_47 v (nI X) x2 x3 kk (nI (mkN 24 m)) s = (true, bbP t) := by
      unfold bX6_printLine_47
      dsimp only
      rw [hc, if_pos rfl, show fX6_pass s 1 = t from (congrArg (fX6_pass s) (show (1 : Int32) = nI 1 from rfl)).trans et.symm]
      rfl
    rw [eb]
    refine ⟨rfl, fun d hd => ?_, ?_, ?_, fun k k1 k2 => ?_, al7 ?_ ?_ ?_ ?_ ?_ ?_ ?_, al9 (fun _ => ?_) (fun _ => ?_) (fun _ => ?_) (fun q => absurd rfl q) (fun _ => ?_) (fun _ => ?_) (fun _ => ?_) (fun _ => ?_) (fun _ => ?_)⟩
    · show t 0 d = _
      rw [b1, if_pos hd]
      exact congrArg nI (coolN_s _ i (h d)).symm
    · show t 0 82 = _
      rw [b1, if_neg (by omega), if_pos rfl, a2, Int32.add_assoc, nI_add]
    · show t 8 3 + 1 = _
      rw [b3 3 (by omega), a3, Int32.add_assoc, nI_1]
    · show t 0 k = _
      rw [b1, if_neg (by omega), if_neg k2, a4 k k1 k2]
    · exact (b2 1 (by omega) (by omega)).trans (a5 1 (by omega) (by omega))
    · exact (b2 2 (by omega) (by omega)).trans (a5 2 (by omega) (by omega))
    · exact (b2 3 (by omega) (by omega)).trans (a5 3 (by omega) (by omega))
    · exact (b2 4 (by omega) (by omega)).trans (a5 4 (by omega) (by omega))
    · exact (b2 5 (by omega) (by omega)).trans (a5 5 (by omega) (by omega))
    · exact (b2 6 (by omega) (by omega)).trans (a5 6 (by omega) (by omega))
    · exact (b2 7 (by omega) (by omega)).trans (a5 7 (by omega) (by omega))
    · exact (b3 0 (by omega)).trans (a6 0 (by omega) (by omega))
    · exact (b3 1 (by omega)).trans (a6 1 (by omega) (by omega))
    · exact (b3 2 (by omega)).trans (a6 2 (by omega) (by omega))
    · exact (b3 4 (by omega)).trans (a6 4 (by omega) (by omega))
    · exact (b3 5 (by omega)).trans (a6 5 (by omega) (by omega))
    · exact (b3 6 (by omega)).trans (a6 6 (by omega) (by omega))
    · exact (b3 7 (by omega)).trans (a6 7 (by omega) (by omega))
    · exact (b3 8 (by omega)).trans (a6 8 (by omega) (by omega))
  · intro s hs
    obtain ⟨a1, a2, a3, a4, a5, a6⟩ := hs
    have hIs : SI (s 0) := SI_congr (fun k k1 k2 => a4 k (by omega) (by omega)) hI
    have hc := isCool_6 (X := X) hIs m (h := fun d => coolN (aN (w 0) 75) W (h d)) (fun d => Nat.le_trans (coolN_le _ _ _) (hh d)) a1
    have e1 : mxN 24 m (fun d => wN (aN (s 0) 75) (aN (s 0) 76 - pN (s 0) X d) (coolN (aN (w 0) 75) W (h d))) = W - W := by
      rw [show W - W = mxN 24 m (fun d => wN (aN (w 0) 75) (aN (w 0) 76 - pN (w 0) X d) (h d)) - W by rw [← hW], ← mxN_sub]
      refine mxN_congr 24 (fun d hd => ⟨rfl, ?_⟩)
      rw [pN_congr (a4 24 (by omega) (by omega)) (a4 25 (by omega) (by omega)) (a4 74 (by omega) (by omega)) (a4 81 (by omega) (by omega))]
      unfold aN
      rw [a4 75 (by omega) (by omega), a4 76 (by omega) (by omega)]
      exact wN_sub _ _ _ _
    rw [e1, Nat.sub_self, if_pos rfl] at hc
    have eb : bX6_printLine_47 v (nI X) x2 x3 kk (nI (mkN 24 m)) s = (false, s) := by
      unfold bX6_printLine_47
      dsimp only
      rw [hc, if_neg (by decide)]
    rw [eb]
    exact ⟨rfl, a1, a2, a3, a4, a5, a6⟩
  · exact ⟨h0, by rw [nI_0, Int32.add_zero], by rw [nI_0, Int32.add_zero], fun _ _ _ => rfl, fun _ _ _ => rfl, fun _ _ _ => rfl⟩
