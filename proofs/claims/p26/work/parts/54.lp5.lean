/-! the settings stay -/
theorem lpB_inv {σ : Type} {P : σ → Prop} {g : σ → Bool × σ} (h : ∀ s, P s → P (g s).2) (n : Nat) : ∀ s, P s → P (lpB n g s) := by
  induction n with
  | zero => exact fun s h => h
  | succ n ih =>
    intro s hs
    show P (bif (g s).1 then lpB n g (g s).2 else (g s).2)
    cases (g s).1 with
    | false => exact h s hs
    | true => exact ih _ (h s hs)
theorem lpD_inv {σ : Type} {P : σ → Prop} {b : Nat → σ → σ} (h : ∀ d s, P s → P (b d s)) (n : Nat) : ∀ s, P s → P (lpD n b s) := by
  induction n with
  | zero => exact fun s h => h
  | succ n ih => exact fun s hs => ih _ (h _ s hs)
theorem q558 {v w : SV} {x6 y6 y8 z2 : Int32} (h : Lgs w) : Lgs (tL_prints_J558 v x6 y6 y8 z2 w) := by
  unfold tL_prints_J558
  exact LSn_upd (LSn_upd (LSn_upd (LSn_upd h (by decide)) (by decide)) (by decide)) (by decide)
theorem q477 {v w : SV} {x6 y6 y8 z2 z3 : Int32} (h : Lgs w) : Lgs (tL_prints_J477 v x6 y6 y8 z2 z3 w) := by
  have k : ∀ a b c d e f : Int32, LSn (upd (upd (upd (upd (upd (upd (w 4) 15 a) 14 b) 13 c) 9 d) 10 e) 11 f) := fun a b c d e f => LSn_upd (LSn_upd (LSn_upd (LSn_upd (LSn_upd (LSn_upd h (by decide)) (by decide)) (by decide)) (by decide)) (by decide)) (by decide)
  unfold tL_prints_J477
  dsimp only
  split
  · exact q558 (k _ _ _ _ _ _)
  · exact q558 (k _ _ _ _ _ _)
theorem q416 {v w : SV} {x6 y6 y8 y9 : Int32} (h : Lgs w) : Lgs (tL_prints_416 v x6 y6 y8 y9 w) := by
  unfold tL_prints_416
  dsimp only
  split
  · exact q477 h
  · exact q477 h
theorem q79 {v : SV} {x6 y6 y8 : Int32} {s : Int32 × SV} (h : Lgs s.2) : Lgs (tL_prints_79 v x6 y6 y8 s) := by
  unfold tL_prints_79
  exact q416 (lpD_inv (P := Lgs) (fun d s hs => hs) 33 _ (I_L_passes _ _ h))
theorem q341 {v w : SV} {x6 y6 y8 y12 z0 z1 : Int32} {k d : Nat} (h : Lgs w) : Lgs (tL_prints_J341 v x6 y6 y8 k d y12 z0 z1 w).2.2 := by
  unfold tL_prints_J341
  dsimp only
  split
  · exact h
  · exact h
theorem q318 {v w : SV} {x6 y6 y8 y9 y12 z2 : Int32} {k d : Nat} (h : Lgs w) : Lgs (tL_prints_J318 v x6 y6 y8 k d y9 y12 z2 w).2.2 := by
  have k2 : LSn (upd (w 4) 20 z2) := LSn_upd h (by decide)
  unfold tL_prints_J318
  split
  · exact q341 k2
  · exact q341 k2
theorem q279 {v w : SV} {x6 y6 y8 y9 y14 z0 : Int32} {k d : Nat} (h : Lgs w) : Lgs (tL_prints_J279 v x6 y6 y8 k d y9 y14 z0 w).2.2 := by
  unfold tL_prints_J279
  dsimp only
  split
  · exact q318 h
  · exact q318 h
theorem q218 {v : SV} {x6 y6 y8 : Int32} {k d : Nat} {s : Int32 × Int32 × SV} (h : Lgs s.2.2) : Lgs (bL_prints_218 v x6 y6 y8 k d s).2.2 := by
  unfold bL_prints_218
  dsimp only
  split
  · split
    · split
      · exact q279 h
      · exact q279 h
    · exact h
  · exact h
theorem q188 {v w : SV} {x6 y6 y8 y9 y11 z2 : Int32} {k : Nat} (h : Lgs w) : Lgs (tL_prints_J188 v x6 y6 y8 k y9 y11 z2 w).2.2 := by
  have k2 := I_L_passes w z2 h
  unfold tL_prints_J188 tL_prints_J207
  dsimp only
  split
  · exact LSn_upd k2 (by decide)
  · exact LSn_upd k2 (by decide)
theorem q89 {v : SV} {x6 y6 y8 y9 : Int32} {k : Nat} {s : Int32 × SV} (h : Lgs s.2) : Lgs (bL_prints_89 v x6 y6 y8 k y9 s).2.2 := by
  unfold bL_prints_89
  dsimp only
  split
  · exact h
  · unfold tL_prints_100
    dsimp only
    split
    · exact q188 h
    · exact q188 h
theorem b79_e (v : SV) (x6 y6 y8 : Int32) (k : Nat) (s : Int32 × SV) : bL_prints_79 v x6 y6 y8 k s = ((lpF 24 0 (bL_prints_218 v x6 y6 y8 k) (s.1, 0, (lpB (mT + 3) (bL_prints_89 v x6 y6 y8 k s.1) (1, s.2)).2)).1, fL_passes (lpF 24 0 (bL_prints_218 v x6 y6 y8 k) (s.1, 0, (lpB (mT + 3) (bL_prints_89 v x6 y6 y8 k s.1) (1, s.2)).2)).2.2 ((lpF 24 0 (bL_prints_218 v x6 y6 y8 k) (s.1, 0, (lpB (mT + 3) (bL_prints_89 v x6 y6 y8 k s.1) (1, s.2)).2)).2.1 / 10 + 1)) := rfl
theorem qB {v w : SV} {x6 y6 y8 y9 : Int32} {k : Nat} (h : Lgs w) (N : Nat) : Lgs (lpB N (bL_prints_89 v x6 y6 y8 k y9) (1, w)).2 := lpB_inv (P := fun s : Int32 × SV => Lgs s.2) (fun s hs => q89 hs) N (1, w) h
theorem qF {v w : SV} {x6 y6 y8 y9 : Int32} {k : Nat} (h : Lgs w) : Lgs (lpF 24 0 (bL_prints_218 v x6 y6 y8 k) (y9, 0, w)).2.2 := lpF_0 (fun _ (s : Int32 × Int32 × SV) => Lgs s.2.2) 24 (y9, 0, w) (fun d s _ hs => q218 hs) h
theorem qb79 {v : SV} {x6 y6 y8 : Int32} {k : Nat} {s : Int32 × SV} (h : Lgs s.2) : Lgs (bL_prints_79 v x6 y6 y8 k s).2 := by
  rw [b79_e]
  exact I_L_passes _ _ (qF (qB h (mT + 3)))
theorem q58 {v w : SV} {x6 y6 z0 z1 : Int32} (h : Lgs w) : Lgs (tL_prints_J58 v x6 y6 z0 z1 w) := by
  unfold tL_prints_J58
  refine q79 (lpF_0 (fun _ (s : Int32 × SV) => Lgs s.2) _ _ (fun d s _ hs => qb79 hs) ?_)
  exact LSn_upd (LSn_upd h (by decide)) (by decide)
theorem q32 {v w : SV} {x6 y6 z0 : Int32} (h : Lgs w) : Lgs (tL_prints_J32 v x6 y6 z0 w) := by
  unfold tL_prints_J32
  split
  · exact q58 h
  · exact q58 h
theorem I_L_prints (v : SV) (x6 : Int32) (h : Lgs v) : Lgs (fL_prints v x6) := by
  unfold fL_prints
  split
  · exact q32 h
  · exact q32 h
