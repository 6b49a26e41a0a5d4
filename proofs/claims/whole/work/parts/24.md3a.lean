def EqS (r r2 : Nat → Int32) : Prop := ∀ k, 74 ≤ k → k ≤ 81 → r2 k = r k
theorem EqS.rf (r : Nat → Int32) : EqS r r := fun _ _ _ => rfl
theorem EqS.u {r r2 : Nat → Int32} {k : Nat} {x : Int32} (h : EqS r r2) (hk : k < 74 ∨ 81 < k) : EqS r (upd r2 k x) := fun j h1 h2 => (pk_un (by omega)).trans (h j h1 h2)
theorem lpF_inv {σ : Type} (P : σ → Prop) {b : Nat → σ → σ} : ∀ (n d : Nat) (s : σ), (∀ d' s, d ≤ d' → d' < d + n → P s → P (b d' s)) → P s → P (lpF n d b s)
  | 0, _, _, _, h => h
  | n + 1, d, s, hb, h => lpF_inv P n (d + 1) (b d s) (fun d' s' h1 h2 => hb d' s' (by omega) (by omega)) (hb d s (by omega) (by omega) h)
theorem lpD_inv {σ : Type} (P : σ → Prop) {b : Nat → σ → σ} : ∀ (n : Nat) (s : σ), (∀ d s, 1 ≤ d → d ≤ n → P s → P (b d s)) → P s → P (lpD n b s)
  | 0, _, _, h => h
  | n + 1, s, hb, h => lpD_inv P n (b (n + 1) s) (fun d s' h1 h2 => hb d s' h1 (by omega)) (hb (n + 1) s (by omega) (by omega) h)
theorem lpB_inv {σ : Type} (P : σ → Prop) {g : σ → Bool × σ} (hb : ∀ s, P s → P (g s).2) : ∀ (n : Nat) (s : σ), P s → P (lpB n g s)
  | 0, _, h => h
  | n + 1, s, h => by
    show P (bif (g s).1 then lpB n g (g s).2 else (g s).2)
    cases (g s).1
    · exact hb s h
    · exact lpB_inv P hb n _ (hb s h)
theorem S_pass (v : SV) (t : Int32) : EqS (v 0) ((fX6_pass v t) 0) := by
  have h : EqS (v 0) ((lpF t.toNatClampNeg 0 (bX6_pass_2 v t) v) 0) := by
    refine lpF_inv (fun s : SV => EqS (v 0) (s 0)) _ _ _ (fun d2 s _ _ hs => ?_) (EqS.rf _)
    refine lpF_inv (fun s : SV => EqS (v 0) (s 0)) 24 0 s (fun d9 s' _ h9 hs' => ?_) hs
    exact EqS.u (r2 := s' 0) (k := d9) hs' (Or.inl (by omega))
  exact EqS.u (k := 82) h (Or.inr (by omega))
theorem S_keepLine (v : SV) (x1 x2 : Int32) : EqS (v 0) ((fX6_keepLine v x1 x2) 0) := by
  have h : EqS (v 0) ((lpD 33 (bX6_keepLine_3 v x1 x2) v) 0) := by
    refine lpD_inv (fun s : SV => EqS (v 0) (s 0)) 33 v (fun d s _ _ hs => ?_) (EqS.rf _)
    exact EqS.u (r2 := s 0) (k := 88 + (d + 2)) hs (Or.inr (by omega))
  have e : ∀ s : SV, EqS (v 0) (s 0) → EqS (v 0) ((tX6_keepLine_3 v x1 x2 s) 0) := by
    intro s hs
    unfold tX6_keepLine_3
    dsimp only
    split
    · exact (((hs.u (k := 88) (Or.inr (by omega))).u (k := 89) (Or.inr (by omega))).u (k := 90) (Or.inr (by omega))).u (k := 87) (Or.inr (by omega))
    · exact (((hs.u (k := 88) (Or.inr (by omega))).u (k := 89) (Or.inr (by omega))).u (k := 90) (Or.inr (by omega))).u (k := 87) (Or.inr (by omega))
  exact e _ h
theorem S_printPart (v : SV) (x1 x2 : Int32) : EqS (v 0) ((fX6_printPart v x1 x2).1 0) := by
  have h : EqS (v 0) ((lpF 24 0 (bX6_printPart_5 v x1 x2) (0, v)).2 0) := by
    refine lpF_inv (fun s : Int32 × SV => EqS (v 0) (s.2 0)) 24 0 (0, v) (fun d s _ hd hs => ?_) (EqS.rf _)
    obtain ⟨y, w⟩ := s
    have k127 : ∀ (y3 y6 z1 z2 : Int32) (w : SV), EqS (v 0) (w 0) → EqS (v 0) ((tX6_printPart_J127 v x1 x2 d y3 y6 z1 z2 w).2 0) := by
      intro y3 y6 z1 z2 w hw
      unfold tX6_printPart_J127
      dsimp only
      split
      · exact (hw.u (k := 26 + d) (Or.inl (by omega))).u (k := 50 + d) (Or.inl (by omega))
      · exact (hw.u (k := 26 + d) (Or.inl (by omega))).u (k := 50 + d) (Or.inl (by omega))
    have k107 : ∀ (y3 z : Int32) (w : SV), EqS (v 0) (w 0) → EqS (v 0) ((tX6_printPart_J107 v x1 x2 d y3 z w).2 0) := by
      intro y3 z w hw
      unfold tX6_printPart_J107
      split
      · exact k127 _ _ _ _ _ hw
      · exact k127 _ _ _ _ _ hw
    have k85 : ∀ (y3 z : Int32) (w : SV), EqS (v 0) (w 0) → EqS (v 0) ((tX6_printPart_J85 v x1 x2 d y3 z w).2 0) := by
      intro y3 z w hw
      unfold tX6_printPart_J85
      split
      · exact k107 _ _ _ hw
      · exact k107 _ _ _ hw
    have k43 : ∀ (y5 z : Int32) (w : SV), EqS (v 0) (w 0) → EqS (v 0) ((tX6_printPart_J43 v x1 x2 d y5 z w).2 0) := by
      intro y5 z w hw
      unfold tX6_printPart_J43
      dsimp only
      split
      · exact k85 _ _ _ (hw.u (k := d) (Or.inl (by omega)))
      · exact k85 _ _ _ (hw.u (k := d) (Or.inl (by omega)))
    show EqS (v 0) ((bX6_printPart_5 v x1 x2 d (y, w)).2 0)
    unfold bX6_printPart_5
    dsimp only
    split
    · split
      · exact k43 _ _ _ hs
      · exact k43 _ _ _ hs
    · exact hs
  exact h
theorem partsOf_eq {v v2 : SV} (x : Int32) (h : EqS (v 0) (v2 0)) : fX6_partsOf v2 x = fX6_partsOf v x := by
  unfold fX6_partsOf fX6_atOnce
  rw [h 77 (by omega) (by omega), h 78 (by omega) (by omega)]
theorem KK {v v2 : SV} {x y : Int32} (h : EqS (v 0) (v2 0)) (hI : SI (v 0) ∧ fX6_partsOf v x = y) : SI (v2 0) ∧ fX6_partsOf v2 x = y := ⟨SI_congr h hI.1, (partsOf_eq x h).trans hI.2⟩
theorem KS {v v2 : SV} (h : EqS (v 0) (v2 0)) (hI : SI (v 0)) : SI (v2 0) := SI_congr h hI
theorem cl_ne0 {x : Int32} {d : Nat} (h : d < x.toNatClampNeg) : ¬ x = 0 := by
  intro e
  rw [e] at h
  exact absurd h (Nat.not_lt_zero _)
theorem SI_paper {r : Nat → Int32} {x : Int32} (hI : SI r) (h : ∃ c, c ≤ 2 ∧ x = nI c) : SI (upd r 81 x) := by
  obtain ⟨h1, h2, h3, h4, h5, h6, h7, -⟩ := hI
  exact ⟨h1, h2, h3, h4, h5, h6, h7, h⟩
