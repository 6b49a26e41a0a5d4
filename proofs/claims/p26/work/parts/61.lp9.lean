/-! isStrip answers 1 -/
theorem tlen {s : SV} {r : Nat → Int32} {B b : Nat} (R : RelS s r) (G : Gd B r) (hb : b < 12) (hb2 : b < aN r 87) : fX3_textLength s (nI b) = nI (24 + (aN r (90 + 3 * b) - 1)) := by
  obtain ⟨e, l⟩ := G.2.2.2.2.1 b hb
  have h5 := (R.2.2.2.2.2.2.1 b (by rw [show (r 87).toNatClampNeg = aN r 87 from rfl]; exact hb2) hb).2.2
  unfold fX3_textLength
  rw [atN _ hb (by omega), h5, e]
  generalize aN r (90 + 3 * b) = p at l
  cases p with
  | zero => rfl
  | succ p =>
    rw [show nI (p + 1) - 1 = nI p from nE_sub (a := p + 1) (b := 1) rfl rfl (by omega)]
    cases p with
    | zero => rfl
    | succ p =>
      rw [if_pos (show (0 : Int32) < nI (p + 1) from by rw [← nI_0]; exact nI_lt (by omega) (by omega)), show (24 : Int32) + nI (p + 1) = nI (24 + (p + 1)) from nI_add 24 (p + 1)]
      rfl
theorem size_s {s : SV} {r : Nat → Int32} {B : Nat} (R : RelS s r) (G : Gd B r) : s 8 0 = nI (aN r 87) ∧ aN r 87 ≤ 12 := ⟨R.2.2.2.2.2.1.2.2.2.2.2.2.trans G.2.2.2.1.1, G.2.2.2.1.2⟩
/-- a sign of a kept line -/
theorem sign_v {s : SV} {r : Nat → Int32} {B b i : Nat} (R : RelS s r) (G : Gd B r) (hb : b < aN r 87) (hi : i < 1000) : fX3_sign s (nI b) (nI i) = if i < 24 + (aN r (90 + 3 * b) - 1) then (if i < 24 then (if fX5_bitOf (r (88 + 3 * b)) (nI i) = 1 then 35 else if fX5_bitOf (r (89 + 3 * b)) (nI i) = 1 then 43 else 46) else 124) else (-1) := by
  obtain ⟨e0, l0⟩ := size_s R G
  obtain ⟨h3, h4, -⟩ := R.2.2.2.2.2.2.1 b hb (by omega)
  obtain ⟨e, l⟩ := G.2.2.2.2.1 b (by omega)
  unfold fX3_sign
  rw [if_neg (nI_pos (by omega)), e0, if_neg (nI_ge hb (by omega)), if_neg (nI_pos (by omega)), tlen R G (by omega) hb, atN _ (show b < 12 by omega) (by omega), atN _ (show b < 12 by omega) (by omega), h3, h4]
  by_cases q : i < 24 + (aN r (90 + 3 * b) - 1)
  · rw [if_pos (nI_lt q (by omega)), if_pos q]
    by_cases q2 : i < 24
    · rw [if_pos (show nI i < 24 from nI_lt (b := 24) q2 (by omega)), if_pos q2]
    · rw [if_neg (show ¬ nI i < 24 from nI_nlt (b := 24) (by omega) (by omega)), if_neg q2]
  · rw [if_neg (nI_nlt (by omega) (by omega)), if_neg q]
theorem rw_k0 (v : SV) (d : Nat) : rw v (88 + 3 * d) = v 3 (3 * d) := rw_k _
theorem rw_k1 (v : SV) (d : Nat) : rw v (89 + 3 * d) = v 3 (3 * d + 1) := by rw [show 89 + 3 * d = 88 + (3 * d + 1) by omega, rw_k]
theorem rw_k2 (v : SV) (d : Nat) : rw v (90 + 3 * d) = v 3 (3 * d + 2) := by rw [show 90 + 3 * d = 88 + (3 * d + 2) by omega, rw_k]
theorem kept_v {x : HV} {v : SV} {B d : Nat} (R : RLw B x v) (hd : d < aN (rw v) 87) : fX5_kept x (nI d) 0 = v 3 (3 * d) ∧ fX5_kept x (nI d) 1 = v 3 (3 * d + 1) ∧ fX5_kept x (nI d) 2 = v 3 (3 * d + 2) := by
  obtain ⟨R, G, -⟩ := R
  obtain ⟨e0, l0⟩ := size_s R G
  obtain ⟨h3, h4, h5⟩ := R.2.2.2.2.2.2.1 d hd (by omega)
  have k : ∀ z : Int32, fX5_kept x (nI d) z = if z = 0 then v 3 (3 * d) else if z = 1 then v 3 (3 * d + 1) else v 3 (3 * d + 2) := by
    intro z
    show fX3_numberOfLine (x 0) (nI d) z = _
    unfold fX3_numberOfLine
    rw [if_neg (nI_pos (by omega)), e0, if_pos (nI_lt hd (by omega)), atN _ (show d < 12 by omega) (by omega), atN _ (show d < 12 by omega) (by omega), atN _ (show d < 12 by omega) (by omega), h3, h4, h5, rw_k0, rw_k1, rw_k2]
  exact ⟨k 0, k 1, k 2⟩
theorem signs_1 {x : HV} {v : SV} {B d : Nat} (R : RLw B x v) (hd : d < aN (rw v) 87) : lpF 24 0 (bL_isStrip_118 x v d) 1 = 1 := by
  obtain ⟨R, G, -⟩ := R
  refine lpF_0 (fun _ s => s = 1) 24 1 ?_ rfl
  rintro i s hi rfl
  have e := sign_v (i := i) R G hd (by omega)
  rw [if_pos (by omega), if_pos hi, bitOf_d _ hi, bitOf_d _ hi, rw_k0, rw_k1] at e
  have e : fX5_told x (nI d) (nI i) = _ := e
  unfold bL_isStrip_118 tL_isStrip_J169 tL_isStrip_J193
  dsimp only
  rw [e]
  by_cases q : (v 3 (3 * d) >>> (nI i &&& 31)) &&& 1 = 1
  · rw [if_pos q, if_pos q, if_neg (by decide), if_pos rfl]
  · rw [if_neg q, if_neg q]
    by_cases q2 : (v 3 (3 * d + 1) >>> (nI i &&& 31)) &&& 1 = 1
    · rw [if_pos q2, if_pos q2, if_neg (by decide), if_pos rfl]
    · rw [if_neg q2, if_neg q2, if_neg (by decide), if_pos rfl]
theorem line_1 {x : HV} {v : SV} {B d : Nat} (R : RLw B x v) (hd : d < aN (rw v) 87) : bL_isStrip_44 x v d 1 = Sum.inl 1 := by
  obtain ⟨k0, k1, k2⟩ := kept_v R hd
  have hs := signs_1 R hd
  obtain ⟨R, G, -⟩ := R
  obtain ⟨-, l0⟩ := size_s R G
  obtain ⟨e, l⟩ := G.2.2.2.2.1 d (by omega)
  have tv := fun i hi => sign_v (i := i) R G hd hi
  have tv : ∀ i, i < 1000 → fX5_told x (nI d) (nI i) = _ := tv
  rw [rw_k2] at e
  generalize aN (rw v) (90 + 3 * d) = p at e l tv
  have t99 : fX5_told x (nI d) 99 = -1 := (tv 99 (by omega)).trans (if_neg (by omega))
  unfold bL_isStrip_44
  dsimp only
  rw [if_neg (by decide), if_pos k0, if_pos k1, if_pos k2]
  unfold tL_isStrip_J114
  rw [hs]
  unfold tL_isStrip_118 tL_isStrip_J297
  dsimp only
  rw [e]
  cases p with
  | zero =>
    have t24 : fX5_told x (nI d) (24 + 0) = -1 := (tv 24 (by omega)).trans (if_neg (by omega))
    rw [if_pos (by decide), if_neg (by decide), if_pos t24, if_pos t99]
  | succ p =>
    have ts : fX5_told x (nI d) (24 + nI p) = -1 := by
      rw [show (24 : Int32) + nI p = nI (24 + p) from nI_add 24 p]
      exact (tv (24 + p) (by omega)).trans (if_neg (by omega))
    rw [if_neg (nI_nle (by omega) (by omega)), if_neg (by decide), show nI (p + 1) - 1 = nI p from nE_sub (a := p + 1) (b := 1) rfl rfl (by omega)]
    by_cases q : p = 0
    · rw [if_pos (by rw [q]; rfl), if_pos ts, if_pos t99]
    · have t24 : fX5_told x (nI d) 24 = 124 := (tv 24 (by omega)).trans ((if_pos (by omega)).trans (if_neg (by omega)))
      have t23 : fX5_told x (nI d) (23 + nI p) = 124 := by
        rw [show (23 : Int32) + nI p = nI (23 + p) from nI_add 23 p]
        exact (tv (23 + p) (by omega)).trans ((if_pos (by omega)).trans (if_neg (by omega)))
      rw [if_neg (nI_ne0 (by omega) (by omega)), if_pos t24, if_pos t23, if_pos ts, if_pos t99]
theorem isStrip_1 {x : HV} {v : SV} {B : Nat} (R : RLw B x v) : fL_isStrip x v = 1 := by
  have hl := fun d hd => line_1 (d := d) R hd
  obtain ⟨R, G, -⟩ := R
  obtain ⟨e0, l0⟩ := size_s R G
  have e15 : v 4 15 = nI (aN (rw v) 87) := G.2.2.2.1.1
  have hJ : tL_isStrip_J40 x v 1 = 1 := by
    unfold tL_isStrip_J40
    rw [e15, nI_clamp (by omega)]
    obtain ⟨t, e, a⟩ := lpR_0 (fun _ s => s = 1) (b := bL_isStrip_44 x v) (aN (rw v) 87) 1 (fun d s hd a => ⟨1, by rw [a]; exact hl d hd, rfl⟩) rfl
    rw [e, a]
    rfl
  unfold fL_isStrip
  by_cases q : v 4 15 = 12
  · rw [if_pos q]; exact hJ
  · have k1 : fX5_kept x (v 4 15) 0 = -1 := by
      rw [e15]
      show fX3_numberOfLine (x 0) (nI (aN (rw v) 87)) 0 = _
      unfold fX3_numberOfLine
      rw [if_neg (nI_pos (by omega)), e0, if_neg (nI_nlt (Nat.le_refl _) (by omega))]
    have k2 : fX5_told x (v 4 15) 0 = -1 := by
      rw [e15]
      show fX3_sign (x 0) (nI (aN (rw v) 87)) 0 = _
      unfold fX3_sign
      rw [if_neg (nI_pos (by omega)), e0, if_pos (nI_le (Nat.le_refl _) (by omega))]
    rw [if_neg q, if_pos k1, if_pos k2]
    exact hJ
