def EqS (r r2 : Nat → Int32) : Prop := ∀ k, 74 ≤ k → k ≤ 81 → r2 k = r k
theorem EqS.rf (r : Nat → Int32) : EqS r r := fun _ _ _ => rfl
theorem EqS.u {r r2 : Nat → Int32} {k : Nat} {x : Int32} (h : EqS r r2) (hk : k < 74 ∨ 81 < k) : EqS r (upd r2 k x) := fun j h1 h2 => (pk_un (by omega)).trans (h j h1 h2)
theorem lpF_inv {σ : Type} (P : σ → Prop) {b : Nat → σ → σ} : ∀ (n d : Nat) (s : σ), (∀ d' s, d ≤ d' → d' < d + n → P s → P (b d' s)) → P s → P (lpF n d b s)
  | 0, _, _, _, h => h
  | n + 1, d, s, hb, h => lpF_inv P n (d + 1) (b d s) (fun d' s' h1 h2 => hb d' s' (by omega) (by omega)) (hb d s (by omega) (by omega) h)
theorem lpD_inv {σ : Type} (P : σ → Prop) {b : Nat → σ → σ} : ∀ (n : Nat) (s : σ), (∀ d s, 1 ≤ d → d ≤ n → P s → P (b d s)) → P s → P (lpD n b s)
  | 0, _, _, h => h
  | n + 1, s, hb, h => lpD_inv P n (b (n + 1) s) (fun d s' h1 h2 => hb d s' h1 (by omega)) (hb (n + 1) s (by omega) (by omega) h)
theorem lpB_inv {σ : Type} (P : σ → Prop) {g : σ → Bool × σ} (hb : ∀ s, P s → P (g s).2) : ∀ (n : Nat) (s : σ), P s → P (lpB n g s)
  | 0, _, h => h
  | n + 1, s, h => by
    show P (bif (g s).1 then lpB n g (g s).2 else (g s).2)
    cases (g s).1
    · exact hb s h
    · exact lpB_inv P hb n _ (hb s h)
theorem S_pass (v : SV) (t : Int32) : EqS (v 0) ((fX6_pass v t) 0) := by
  have h : EqS (v 0) ((lpF t.toNatClampNeg 0 (bX6_pass_2 v t) v) 0) := by
    refine lpF_inv (fun s : SV => EqS (v 0) (s 0)) _ _ _ (fun d2 s _ _ hs => ?_) (EqS.rf _)
    refine lpF_inv (fun s : SV => EqS (v 0) (s 0)) 24 0 s (fun d9 s' _ h9 hs' => ?_) hs
    exact EqS.u (r2 := s' 0) (k := d9) hs' (Or.inl (by omega))
  exact EqS.u (k := 82) h (Or.inr (by omega))
theorem S_keepLine (v : SV) (x1 x2 : Int32) : EqS (v 0) ((fX6_keepLine v x1 x2) 0) := by
  have h : EqS (v 0) ((lpD 33 (bX6_keepLine_3 v x1 x2) v) 0) := by
    refine lpD_inv (fun s : SV => EqS (v 0) (s 0)) 33 v (fun d s _ _ hs => ?_) (EqS.rf _)
    exact EqS.u (r2 := s 0) (k := 88 + (d + 2)) hs (Or.inr (by omega))
  have e : ∀ s : SV, EqS (v 0) (s 0) → EqS (v 0) ((tX6_keepLine_3 v x1 x2 s) 0) := by
    intro s hs
    unfold tX6_keepLine_3
    dsimp only
    split
    · exact (((hs.u (k := 88) (Or.inr (by omega))).u (k := 89) (Or.inr (by omega))).u (k := 90) (Or.inr (by omega))).u (k := 87) (Or.inr (by omega))
    · exact (((hs.u (k := 88) (Or.inr (by omega))).u (k := 89) (Or.inr (by omega))).u (k := 90) (Or.inr (by omega))).u (k := 87) (Or.inr (by omega))
  exact e _ h
theorem S_printPart (v : SV) (x1 x2 : Int32) : EqS (v 0) ((fX6_printPart v x1 x2).1 0) := by
  have h : EqS (v 0) ((lpF 24 0 (bX6_printPart_5 v x1 x2) (0, v)).2 0) := by
    refine lpF_inv (fun s : Int32 × SV => EqS (v 0) (s.2 0)) 24 0 (0, v) (fun d s _ hd hs => ?_) (EqS.rf _)
    obtain ⟨y, w⟩ := s
    have k127 : ∀ (y3 y6 z1 z2 : Int32) (w : SV), EqS (v 0) (w 0) → EqS (v 0) ((tX6_printPart_J127 v x1 x2 d y3 y6 z1 z2 w).2 0) := by
      intro y3 y6 z1 z2 w hw
      unfold tX6_printPart_J127
      dsimp only
      split
      · exact (hw.u (k := 26 + d) (Or.inl (by omega))).u (k := 50 + d) (Or.inl (by omega))
      · exact (hw.u (k := 26 + d) (Or.inl (by omega))).u (k := 50 + d) (Or.inl (by omega))
    have k107 : ∀ (y3 z : Int32) (w : SV), EqS (v 0) (w 0) → EqS (v 0) ((tX6_printPart_J107 v x1 x2 d y3 z w).2 0) := by
      intro y3 z w hw
      unfold tX6_printPart_J107
      split
      · exact k127 _ _ _ _ _ hw
      · exact k127 _ _ _ _ _ hw
    have k85 : ∀ (y3 z : Int32) (w : SV), EqS (v 0) (w 0) → EqS (v 0) ((tX6_printPart_J85 v x1 x2 d y3 z w).2 0) := by
      intro y3 z w hw
      unfold tX6_printPart_J85
      split
      · exact k107 _ _ _ hw
      · exact k107 _ _ _ hw
    have k43 : ∀ (y5 z : Int32) (w : SV), EqS (v 0) (w 0) → EqS (v 0) ((tX6_printPart_J43 v x1 x2 d y5 z w).2 0) := by
      intro y5 z w hw
      unfold tX6_printPart_J43
      dsimp only
      split
      · exact k85 _ _ _ (hw.u (k := d) (Or.inl (by omega)))
      · exact k85 _ _ _ (hw.u (k := d) (Or.inl (by omega)))
    show EqS (v 0) ((bX6_printPart_5 v x1 x2 d (y, w)).2 0)
    unfold bX6_printPart_5
    dsimp only
    split
    · split
      · exact k43 _ _ _ hs
      · exact k43 _ _ _ hs
    · exact hs
  exact h
theorem partsOf_eq {v v2 : SV} (x : Int32) (h : EqS (v 0) (v2 0)) : fX6_partsOf v2 x = fX6_partsOf v x := by
  unfold fX6_partsOf fX6_atOnce
  rw [h 77 (by omega) (by omega), h 78 (by omega) (by omega)]
theorem KK {v v2 : SV} {x y : Int32} (h : EqS (v 0) (v2 0)) (hI : SI (v 0) ∧ fX6_partsOf v x = y) : SI (v2 0) ∧ fX6_partsOf v2 x = y := ⟨SI_congr h hI.1, (partsOf_eq x h).trans hI.2⟩
theorem KS {v v2 : SV} (h : EqS (v 0) (v2 0)) (hI : SI (v 0)) : SI (v2 0) := SI_congr h hI
theorem cl_ne0 {x : Int32} {d : Nat} (h : d < x.toNatClampNeg) : ¬ x = 0 := by
  intro e
  rw [e] at h
  exact absurd h (Nat.not_lt_zero _)
theorem SI_paper {r : Nat → Int32} {x : Int32} (hI : SI r) (h : ∃ c, c ≤ 2 ∧ x = nI c) : SI (upd r 81 x) := by
  obtain ⟨h1, h2, h3, h4, h5, h6, h7, -⟩ := hI
  exact ⟨h1, h2, h3, h4, h5, h6, h7, h⟩
/-- the rounds that the loop of a wait is given: more than a heat can be -/
def mT : Nat := 2147483648
def bd (x : Int32) (a b : Int) : Prop := a ≤ x.toInt ∧ x.toInt ≤ b
theorem bd_i (x : Int32) : -2147483648 ≤ x.toInt ∧ x.toInt ≤ 2147483647 := ⟨Int32.le_toInt x, by have := Int32.toInt_lt x; omega⟩
theorem bd_add {x y : Int32} {a b c d : Int} (h1 : bd x a b) (h2 : bd y c d) (ha : -2147483648 ≤ a + c) (hb : b + d ≤ 2147483647) : bd (x + y) (a + c) (b + d) := by
  obtain ⟨h1, h1'⟩ := h1
  obtain ⟨h2, h2'⟩ := h2
  unfold bd
  rw [Int32.toInt_add, Int.bmod_eq_of_le (by omega) (by omega)]
  omega
theorem bd_sub {x y : Int32} {a b c d : Int} (h1 : bd x a b) (h2 : bd y c d) (ha : -2147483648 ≤ a - d) (hb : b - c ≤ 2147483647) : bd (x - y) (a - d) (b - c) := by
  obtain ⟨h1, h1'⟩ := h1
  obtain ⟨h2, h2'⟩ := h2
  unfold bd
  rw [Int32.toInt_sub, Int.bmod_eq_of_le (by omega) (by omega)]
  omega
theorem bd_nI {c : Nat} {a b : Int} (ha : a ≤ c) (hb : (c : Int) ≤ b) (h : c < 2 ^ 31) : bd (nI c) a b := by
  unfold bd
  rw [nI_toInt (by omega)]
  exact ⟨ha, hb⟩
theorem bd_w {x : Int32} {a b c d : Int} (h : bd x a b) (h1 : c ≤ a) (h2 : b ≤ d) : bd x c d := ⟨by have := h.1; omega, by have := h.2; omega⟩
theorem and1_01 (x : Int32) : x &&& 1 = 0 ∨ x &&& 1 = 1 := by
  have h : (x &&& 1).toBitVec = BitVec.setWidth 32 (BitVec.ofBool (x.toBitVec.getLsbD 0)) := BitVec.and_one_eq_setWidth_ofBool_getLsbD
  rcases hb : x.toBitVec.getLsbD 0 with _ | _
  · rw [hb] at h; exact Or.inl (Int32.toBitVec_inj.mp h)
  · rw [hb] at h; exact Or.inr (Int32.toBitVec_inj.mp h)
theorem bit_01 (x y : Int32) : fX6_bit x y = 0 ∨ fX6_bit x y = 1 := by
  unfold fX6_bit
  split
  · exact Or.inl rfl
  · exact and1_01 _
theorem pulse_bd {v : SV} (hI : SI (v 0)) (x1 x2 : Int32) : bd (fX6_pulse v x1 x2) 20 325 := by
  obtain ⟨⟨c, h1, h2, h3⟩, -⟩ := hI
  have hc : bd ((v 0) 74) 50 300 := by rw [h3]; exact bd_nI (by omega) (by omega) (by omega)
  have k : ∀ (b : Int32) (n : Int32) (z : Int), 0 ≤ z → bd n z z → (b = 0 ∨ b = 1) → bd (n * b) 0 z := by
    intro b n z hz hn hb
    rcases hb with rfl | rfl
    · rw [Int32.mul_zero]; exact ⟨by decide, by show (0 : Int) ≤ z; omega⟩
    · rw [Int32.mul_one]; exact ⟨by have := hn.1; omega, hn.2⟩
  have J : ∀ z : Int32, bd z (-15) 25 → bd (tX6_pulseBy_J32 v x1 x2 ((v 0) 74) z) 20 325 := by
    intro z hz
    have b1 := k _ 20 20 (by omega) ⟨by decide, by decide⟩ (bit_01 ((v 0) 24) x2)
    have b2 := k _ 10 10 (by omega) ⟨by decide, by decide⟩ (bit_01 ((v 0) 25) x2)
    have b3 : bd (5 * ((fX6_bit x1 (x2 - 1)) + (fX6_bit x1 (x2 + 1)))) 0 10 := by
      rcases bit_01 x1 (x2 - 1) with e | e <;> rcases bit_01 x1 (x2 + 1) with e2 | e2 <;> rw [e, e2] <;> exact ⟨by decide, by decide⟩
    have s := bd_sub (bd_sub (bd_sub (bd_add hc hz (by omega) (by omega)) b1 (by omega) (by omega)) b2 (by omega) (by omega)) b3 (by omega) (by omega)
    unfold tX6_pulseBy_J32
    split
    · rename_i q
      refine ⟨?_, by have := s.2; omega⟩
      have := Int32.le_iff_toInt_le.mp q
      exact this
    · exact ⟨by decide, by decide⟩
  unfold fX6_pulse fX6_pulseBy
  split
  · exact J _ ⟨by decide, by decide⟩
  · split
    · exact J _ ⟨by decide, by decide⟩
    · exact J _ ⟨by decide, by decide⟩
theorem tdivq (x : Int) (c : Nat) (h5 : 5 ≤ c) (h200 : c ≤ 200) : ∃ q : Nat, 5 * q ≤ x.natAbs ∧ (200 ≤ x.natAbs → 1 ≤ q) ∧ (0 ≤ x → x.tdiv c = q) ∧ (x < 0 → x.tdiv c = -(q : Int)) := by
  refine ⟨x.natAbs / c, ?_, ?_, ?_, ?_⟩
  · have h1 : c * (x.natAbs / c) ≤ x.natAbs := Nat.mul_div_le _ _
    have h2 : 5 * (x.natAbs / c) ≤ c * (x.natAbs / c) := Nat.mul_le_mul_right _ h5
    exact Nat.le_trans h2 h1
  · intro h
    exact Nat.div_pos (by omega) (by omega)
  · intro h
    have e : x = (x.natAbs : Int) := by omega
    conv => lhs; rw [e]
    rfl
  · intro h
    have e : x = -(x.natAbs : Int) := by omega
    conv => lhs; rw [e]
    rw [Int.neg_tdiv]
    rfl
theorem cooled_bd {v : SV} (hI : SI (v 0)) (x : Int32) : (fX6_cooled v x).toNatClampNeg ≤ x.toNatClampNeg - 1 := by
  obtain ⟨-, ⟨c, h1, h2, h3⟩, -⟩ := hI
  unfold fX6_cooled
  rw [h3]
  have hc : (nI c).toInt = c := nI_toInt (by omega)
  have hx := bd_i x
  obtain ⟨q, q1, q2, q3, q4⟩ := tdivq x.toInt c h1 h2
  have t1 : (x / nI c).toInt = x.toInt.tdiv c := by
    rw [Int32.toInt_div, hc]
    rcases Int.lt_or_le x.toInt 0 with hn | hn
    · rw [q4 hn]; exact Int.bmod_eq_of_le (by omega) (by omega)
    · rw [q3 hn]; exact Int.bmod_eq_of_le (by omega) (by omega)
  have t2 : (x - x / nI c - 1).toInt = x.toInt - x.toInt.tdiv c - 1 := by
    rw [Int32.toInt_sub, Int32.toInt_sub, t1]
    show Int.bmod (Int.bmod _ _ - 1) _ = _
    rcases Int.lt_or_le x.toInt 0 with hn | hn
    · rw [q4 hn, Int.bmod_eq_of_le (n := x.toInt - -(q : Int)) (by omega) (by omega)]
      exact Int.bmod_eq_of_le (by omega) (by omega)
    · rw [q3 hn, Int.bmod_eq_of_le (n := x.toInt - (q : Int)) (by omega) (by omega)]
      exact Int.bmod_eq_of_le (by omega) (by omega)
  split
  · exact Nat.zero_le _
  · rename_i z
    show (x - x / nI c - 1).toInt.toNat ≤ x.toInt.toNat - 1
    rw [t2]
    rcases Int.lt_or_le x.toInt 0 with hn | hn
    · rw [q4 hn]; omega
    · rw [q3 hn]; omega
theorem lpF_ind {σ : Type} (P : Nat → σ → Prop) {b : Nat → σ → σ} : ∀ (n d : Nat) (s : σ), (∀ d' s, d ≤ d' → d' < d + n → P d' s → P (d' + 1) (b d' s)) → P d s → P (d + n) (lpF n d b s)
  | 0, _, _, _, h => h
  | n + 1, d, s, hb, h => by
    have := lpF_ind P n (d + 1) (b d s) (fun d' s' h1 h2 => hb d' s' (by omega) (by omega)) (hb d s (by omega) (by omega) h)
    rw [show d + (n + 1) = d + 1 + n by omega]
    exact this
theorem pass_in {v : SV} (hI : SI (v 0)) : EqS (v 0) ((lpF 24 0 (bX6_pass_9 v 1 0) v) 0) ∧ (∀ j, j < 0 + 24 → ((lpF 24 0 (bX6_pass_9 v 1 0) v) 0 j).toNatClampNeg ≤ ((v 0) j).toNatClampNeg - 1) ∧ (∀ j, 0 + 24 ≤ j → j < 24 → (lpF 24 0 (bX6_pass_9 v 1 0) v) 0 j = v 0 j) := by
  refine lpF_ind (fun d (s : SV) => EqS (v 0) (s 0) ∧ (∀ j, j < d → (s 0 j).toNatClampNeg ≤ ((v 0) j).toNatClampNeg - 1) ∧ (∀ j, d ≤ j → j < 24 → s 0 j = v 0 j)) 24 0 v (fun d s _ hd hs => ?_) ⟨EqS.rf _, fun j h => absurd h (Nat.not_lt_zero _), fun _ _ _ => rfl⟩
  obtain ⟨e1, e2, e3⟩ := hs
  refine ⟨EqS.u (r2 := s 0) e1 (Or.inl (by omega)), fun j hj => ?_, fun j h1 h2 => ?_⟩
  · show (upd (s 0) d (fX6_cooled s ((s 0) d)) j).toNatClampNeg ≤ _
    by_cases q : j = d
    · rw [q, pk_us, e3 d (Nat.le_refl _) (by omega)]
      exact cooled_bd (SI_congr e1 hI) _
    · rw [pk_un q]
      exact e2 j (by omega)
  · show upd (s 0) d (fX6_cooled s ((s 0) d)) j = _
    rw [pk_un (by omega)]
    exact e3 j (by omega) h2
theorem lpF_one {σ : Type} (b : Nat → σ → σ) (d : Nat) (s : σ) : lpF 1 d b s = b d s := rfl
theorem pass_b2 (v : SV) (x : Int32) (d : Nat) (s : SV) : bX6_pass_2 v x d s = lpF 24 0 (bX6_pass_9 v x d) s := by
  unfold bX6_pass_2 tX6_pass_9
  dsimp only
theorem pass_eq (v : SV) : fX6_pass v 1 = tX6_pass_2 v 1 (lpF 24 0 (bX6_pass_9 v 1 0) v) := by
  unfold fX6_pass
  rw [show (1 : Int32).toNatClampNeg = 1 by decide, lpF_one, pass_b2]
theorem pass_1 {v : SV} (hI : SI (v 0)) (j : Nat) (hj : j < 24) : ((fX6_pass v 1) 0 j).toNatClampNeg ≤ ((v 0) j).toNatClampNeg - 1 := by
  have h := (pass_in hI).2.1 j (by omega)
  rw [pass_eq]
  generalize lpF 24 0 (bX6_pass_9 v 1 0) v = s at h ⊢
  show (upd (s 0) 82 _ j).toNatClampNeg ≤ _
  rw [pk_un (by omega)]
  exact h
theorem isCool_1 {v : SV} (hI : SI (v 0)) (h : ∀ j, j < 24 → (v 0 j).toNatClampNeg = 0) (x1 x2 : Int32) : fX6_isCool v x1 x2 = 1 := by
  unfold fX6_isCool tX6_isCool_5
  dsimp only
  refine lpF_inv (fun s : Int32 => s = 1) 24 0 1 (fun d s _ hd hs => ?_) rfl
  show bX6_isCool_5 v x1 x2 d s = 1
  rw [hs]
  unfold bX6_isCool_5
  dsimp only
  rw [if_neg (by decide)]
  split
  · rfl
  · have p := pulse_bd hI x1 (nI d)
    have q : bd (v 0 d) (-2147483648) 0 := by
      refine ⟨(bd_i _).1, ?_⟩
      have : (v 0 d).toInt.toNat = 0 := h d (by omega)
      omega
    have s := bd_add q p (by omega) (by omega)
    rw [if_neg]
    intro z
    obtain ⟨-, -, ⟨c, h1, h2, h3⟩, -⟩ := hI
    rw [h3] at z
    have := Int32.lt_iff_toInt_lt.mp z
    rw [nI_toInt (by omega)] at this
    have := s.2
    omega
