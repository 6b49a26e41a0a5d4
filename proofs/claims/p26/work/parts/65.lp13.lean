/-! acts answers 1, whole -/
def QA (B : Nat) (z : (SV × HV) × Int32) : Prop := z.2 = 1 ∧ RLw B z.1.2 z.1.1
theorem QA.mono {B C : Nat} {z : (SV × HV) × Int32} (h : QA B z) (hb : B ≤ C) : QA C z := ⟨h.1, h.2.1, Gd_mono hb h.2.2.1, h.2.2.2⟩
theorem upd_row {v : SV} {n : Nat → Int32} {i : Nat} (hi : i < 7) (z : Int32) : ∀ k, k < 124 → rw (mkL (v 0) (v 1) (v 2) (v 3) (upd (v 4) i z)) k = upd (rw v) (74 + i) z k := by
  have ne : ∀ j, j ≠ i → (mkL (v 0) (v 1) (v 2) (v 3) (upd (v 4) i z)) 4 j = v 4 j := fun j h => show upd (v 4) i z j = _ from pk_un h
  refine al124 (fun d hd => ?_) ?_ ?_ (fun d hd => ?_) (fun d hd => ?_) (fun j hj => ?_) ?_ ?_ ?_ ?_ ?_ ?_ ?_ (fun j hj => ?_)
  · rw [pk_un (by omega), rw_h hd, rw_h hd]; rfl
  · rw [pk_un (by omega)]; exact ne 13 (by omega)
  · rw [pk_un (by omega)]; exact ne 14 (by omega)
  · rw [pk_un (by omega), rw_p hd, rw_p hd]; rfl
  · rw [pk_un (by omega), rw_f hd, rw_f hd]; rfl
  · rw [rw_s hj]
    by_cases q : j = i
    · subst q
      rw [pk_us]
      exact (show upd (v 4) j z j = z from pk_us)
    · rw [pk_un (by omega), rw_s hj]
      exact ne j q
  · rw [pk_un (by omega)]; exact ne 7 (by omega)
  · rw [pk_un (by omega)]; exact ne 8 (by omega)
  · rw [pk_un (by omega)]; exact ne 9 (by omega)
  · rw [pk_un (by omega)]; exact ne 10 (by omega)
  · rw [pk_un (by omega)]; exact ne 11 (by omega)
  · rw [pk_un (by omega)]; exact ne 12 (by omega)
  · rw [pk_un (by omega)]; exact ne 15 (by omega)
  · rw [pk_un (by omega), rw_k, rw_k]; rfl
theorem set_ok {B W : Nat} {x : HV} {v : SV} {w : Int32} (R : RLw B x v) (hW : W < 7) (hw : LSn (upd (v 4) W w)) : (fX5_set x (nI W) (upd (v 4) W w W)).2 = v 4 W ∧ RLw B (fX5_set x (nI W) (upd (v 4) W w W)).1 (mkL (v 0) (v 1) (v 2) (v 3) (upd (v 4) W w)) := by
  obtain ⟨R, G, h9⟩ := R
  obtain ⟨s0, s9⟩ := save_w h9
  have hk := upd_row (v := v) (n := v 4) hW w
  have hS : SI (upd (rw v) (74 + W) w) := SI_congr (fun k h1 h2 => (hk k (by omega)).symm) (show SI (rw (mkL (v 0) (v 1) (v 2) (v 3) (upd (v 4) W w))) from hw)
  unfold fX5_set
  dsimp only
  rw [pk_us, s0]
  refine ⟨?_, RLw_now s9 (RelS_row hk (RelS_set R hW w)) (Gd_row hk (Gd_set G hW hS))⟩
  show fX2_setting (x 0) (nI W) = _
  exact (at7 _ W hW).trans ((R.2.2.2.2.1 W hW).trans (rw_s hW))
theorem set_leaf {B W : Nat} {x : HV} {v : SV} {w : Int32} (R : RLw B x v) (hW : W < 7) (hw : LSn (upd (v 4) W w)) : QA B (if (fX5_set x (nI W) (upd (v 4) W w W)).2 = v 4 W then ((mkL (v 0) (v 1) (v 2) (v 3) (upd (v 4) W w), (fX5_set x (nI W) (upd (v 4) W w W)).1), 1) else ((mkL (v 0) (v 1) (v 2) (v 3) (upd (v 4) W w), (fX5_set x (nI W) (upd (v 4) W w W)).1), 0)) := by
  obtain ⟨a, b⟩ := set_ok R hW hw
  rw [if_pos a]
  exact ⟨rfl, b⟩
theorem low_add {x w : Int32} {a n : Nat} (h1 : 1 ≤ n) (h2 : n < 1000) (e : w = nI a + fL_low x (nI n)) : ∃ c, a ≤ c ∧ c < a + n ∧ w = nI c := by
  obtain ⟨r, r1, r2⟩ := low_n x (n := n) h1 (by omega)
  exact ⟨a + r, by omega, by omega, by rw [e, r2, nI_add]⟩
theorem nI_i {W i : Nat} (hW : W < 7) (hi : i < 7) (h : nI W = nI i) : W = i := by
  have := congrArg Int32.toNatClampNeg h
  rw [nI_clamp (by omega), nI_clamp (by omega)] at this
  exact this
theorem sets_1 {B : Nat} {x : HV} {v : SV} (R : RLw B x v) (x3 : Int32) : QA B (fL_sets x v x3) := by
  have hI : LSn (v 4) := R.2.1.1
  have hW := low7 x3
  unfold fL_sets
  dsimp only
  generalize (fL_low x3 7).toNatClampNeg = W at hW ⊢
  by_cases k0 : nI W = 0
  · have e := nI_i hW (i := 0) (by omega) k0
    rw [if_pos k0]
    obtain ⟨c, c1, c2, c3⟩ := low_add (x := x3 >>> (3 &&& 31)) (a := 50) (n := 251) (w := (50 : Int32) + fL_low (x3 >>> (3 &&& 31)) 251) (by omega) (by omega) rfl
    refine set_leaf R hW ?_
    rw [c3, e]
    exact ⟨⟨c, c1, by omega, rfl⟩, hI.2⟩
  rw [if_neg k0]
  by_cases k1 : nI W = 1
  · have e := nI_i hW (i := 1) (by omega) k1
    rw [if_pos k1]
    obtain ⟨c, c1, c2, c3⟩ := low_add (x := x3 >>> (3 &&& 31)) (a := 5) (n := 196) (w := (5 : Int32) + fL_low (x3 >>> (3 &&& 31)) 196) (by omega) (by omega) rfl
    refine set_leaf R hW ?_
    rw [c3, e]
    exact ⟨hI.1, ⟨c, c1, by omega, rfl⟩, hI.2.2⟩
  rw [if_neg k1]
  by_cases k2 : nI W = 2
  · have e := nI_i hW (i := 2) (by omega) k2
    rw [if_pos k2]
    obtain ⟨c, c1, c2, c3⟩ := low_add (x := x3 >>> (3 &&& 31)) (a := 330) (n := 571) (w := (330 : Int32) + fL_low (x3 >>> (3 &&& 31)) 571) (by omega) (by omega) rfl
    refine set_leaf R hW ?_
    rw [c3, e]
    exact ⟨hI.1, hI.2.1, ⟨c, c1, by omega, rfl⟩, hI.2.2.2⟩
  rw [if_neg k2]
  by_cases k3 : nI W = 3
  · have e := nI_i hW (i := 3) (by omega) k3
    rw [if_pos k3]
    obtain ⟨c, c1, c2, c3⟩ := low_add (x := x3 >>> (3 &&& 31)) (a := 1) (n := 20) (w := (1 : Int32) + fL_low (x3 >>> (3 &&& 31)) 20) (by omega) (by omega) rfl
    refine set_leaf R hW ?_
    rw [c3, e]
    exact ⟨hI.1, hI.2.1, hI.2.2.1, ⟨c, c1, by omega, rfl⟩, hI.2.2.2.2⟩
  rw [if_neg k3]
  by_cases k4 : nI W = 4
  · have e := nI_i hW (i := 4) (by omega) k4
    rw [if_pos k4]
    obtain ⟨c, c1, c2, c3⟩ := low_add (x := x3 >>> (3 &&& 31)) (a := 1) (n := 200) (w := (1 : Int32) + fL_low (x3 >>> (3 &&& 31)) 200) (by omega) (by omega) rfl
    refine set_leaf R hW ?_
    rw [c3, e]
    exact ⟨hI.1, hI.2.1, hI.2.2.1, hI.2.2.2.1, ⟨c, c1, by omega, rfl⟩, hI.2.2.2.2.2⟩
  rw [if_neg k4]
  by_cases k5 : nI W = 5
  · have e := nI_i hW (i := 5) (by omega) k5
    rw [if_pos k5]
    obtain ⟨c, c2, c3⟩ := low_n (x3 >>> (3 &&& 31)) (n := 2) (by omega) (by omega)
    refine set_leaf R hW ?_
    rw [show fL_low (x3 >>> (3 &&& 31)) 2 = nI c from c3, e]
    exact ⟨hI.1, hI.2.1, hI.2.2.1, hI.2.2.2.1, hI.2.2.2.2.1, ⟨c, by omega, rfl⟩, hI.2.2.2.2.2.2⟩
  rw [if_neg k5]
  have e : W = 6 := by
    match W, hW with
    | 0, _ => exact absurd rfl k0
    | 1, _ => exact absurd rfl k1
    | 2, _ => exact absurd rfl k2
    | 3, _ => exact absurd rfl k3
    | 4, _ => exact absurd rfl k4
    | 5, _ => exact absurd rfl k5
    | 6, _ => rfl
    | k + 7, h => exact absurd h (by omega)
  obtain ⟨c, c2, c3⟩ := low_n (x3 >>> (3 &&& 31)) (n := 51) (by omega) (by omega)
  refine set_leaf R hW ?_
  rw [show fL_low (x3 >>> (3 &&& 31)) 51 = nI c from c3, e]
  exact ⟨hI.1, hI.2.1, hI.2.2.1, hI.2.2.2.1, hI.2.2.2.2.1, hI.2.2.2.2.2.1, ⟨c, by omega, rfl⟩, hI.2.2.2.2.2.2.2⟩
theorem paper_b {B p : Nat} {s v : SV} (R : RelS s (rw v)) (G : Gd B (rw v)) (hp : p ≤ 2) : RelS (fX2_changePaper s (nI p)) (rw (mkL (v 0) (v 1) (v 2) (v 3) (upd (upd (v 4) 7 (nI p)) 15 0))) ∧ Gd B (rw (mkL (v 0) (v 1) (v 2) (v 3) (upd (upd (v 4) 7 (nI p)) 15 0))) := by
  obtain ⟨u, eu⟩ : ∃ u, u = mkL (v 0) (v 1) (v 2) (v 3) (upd (upd (v 4) 7 (nI p)) 15 0) := ⟨_, rfl⟩
  have e4 : ∀ j, j ≠ 7 → j ≠ 15 → u 4 j = v 4 j := fun j h1 h2 => by
    rw [eu]
    show upd (upd (v 4) 7 (nI p)) 15 0 j = _
    rw [pk_un h2, pk_un h1]
  have e81 : rw u 81 = nI p := by
    rw [eu]
    show upd (upd (v 4) 7 (nI p)) 15 0 7 = _
    rw [pk_un (by omega), pk_us]
  have e87 : rw u 87 = 0 := by
    rw [eu]
    show upd (upd (v 4) 7 (nI p)) 15 0 15 = _
    rw [pk_us]
  have e0 : u 0 = v 0 := by rw [eu]; rfl
  have e1 : u 1 = v 1 := by rw [eu]; rfl
  have e2 : u 2 = v 2 := by rw [eu]; rfl
  have e3 : u 3 = v 3 := by rw [eu]; rfl
  rw [← eu]
  have h24 : rw u 24 = rw v 24 := e4 13 (by omega) (by omega)
  have h25 : rw u 25 = rw v 25 := e4 14 (by omega) (by omega)
  have h82 : rw u 82 = rw v 82 := e4 8 (by omega) (by omega)
  have h83 : rw u 83 = rw v 83 := e4 9 (by omega) (by omega)
  have h84 : rw u 84 = rw v 84 := e4 10 (by omega) (by omega)
  have h85 : rw u 85 = rw v 85 := e4 11 (by omega) (by omega)
  have h86 : rw u 86 = rw v 86 := e4 12 (by omega) (by omega)
  have hh : ∀ d, d < 24 → rw u d = rw v d := fun d hd => by rw [rw_h hd, rw_h hd, e0]
  have hpp : ∀ d, d < 24 → rw u (26 + d) = rw v (26 + d) := fun d hd => by rw [rw_p hd, rw_p hd, e1]
  have hff : ∀ d, d < 24 → rw u (50 + d) = rw v (50 + d) := fun d hd => by rw [rw_f hd, rw_f hd, e2]
  have hss : ∀ i, i < 7 → rw u (74 + i) = rw v (74 + i) := fun i hi => by rw [rw_s hi, rw_s hi, e4 i (by omega) (by omega)]
  obtain ⟨R1, ⟨R2, R3⟩, R4, R5, R6, ⟨R7, R8, R9, R10, R11, R12, R13⟩, R14, R15, R16⟩ := R
  refine ⟨⟨fun d hd => (R1 d hd).trans (hh d hd).symm, ⟨R2.trans h24.symm, R3.trans h25.symm⟩, fun d hd => (R4 d hd).trans (hpp d hd).symm, fun d hd => (R5 d hd).trans (hff d hd).symm, fun i hi => (R6 i hi).trans (hss i hi).symm, ⟨e81.symm, R8.trans h82.symm, R9.trans h83.symm, R10.trans h84.symm, R11.trans h85.symm, R12.trans h86.symm, e87.symm⟩, fun j hj => ?_, R15.trans (smF_congr 24 (fun d hd => (hpp d hd).symm)), R16.trans (smF_congr 24 (fun d hd => (hff d hd).symm))⟩, ?_⟩
  · rw [e87, show (0 : Int32).toNatClampNeg = 0 from rfl] at hj
    exact absurd hj (Nat.not_lt_zero j)
  · refine ⟨?_, fun d hd => ?_, ?_, ?_, fun j hj => ?_, fun d hd => ?_⟩
    · have g := G.1
      obtain ⟨a0, a1, a2, a3, a4, a5, a6, -⟩ := g
      refine ⟨?_, ?_, ?_, ?_, ?_, ?_, ?_, p, hp, e81⟩
      · rw [hss 0 (by omega)]; exact a0
      · rw [hss 1 (by omega)]; exact a1
      · rw [hss 2 (by omega)]; exact a2
      · rw [hss 3 (by omega)]; exact a3
      · rw [hss 4 (by omega)]; exact a4
      · rw [hss 5 (by omega)]; exact a5
      · rw [hss 6 (by omega)]; exact a6
    · rw [hh d hd, aN_e (hh d hd)]; exact G.2.1 d hd
    · rw [h86, aN_e h86]; exact G.2.2.1
    · obtain ⟨a, b⟩ := zero_a e87
      exact ⟨a, by omega⟩
    · have e : rw u (90 + 3 * j) = rw v (90 + 3 * j) := by rw [rw_k2, rw_k2, e3]
      rw [e, aN_e e]; exact G.2.2.2.2.1 j hj
    · rw [hpp d hd, aN_e (hpp d hd), hff d hd, aN_e (hff d hd)]; exact G.2.2.2.2.2 d hd
theorem acts_1 {B : Nat} {x : HV} {v : SV} (R : RLw B x v) (hB : B + 10 < 2 ^ 20) (x7 x8 : Int32) : QA (B + 5) (fL_acts x v x7 x8) := by
  have hs : QA (B + 5) (fL_sets x v x8) := (sets_1 R x8).mono (by omega)
  obtain ⟨X, hX, eX⟩ := dots_n x8
  obtain ⟨R0, G, h9⟩ := R
  obtain ⟨s0, s9⟩ := save_w h9
  have hlines : QA (B + 5) (tL_acts_205 x v x7 x8 (lpF ((1 : Int32) + fL_low (x8 >>> (20 &&& 31)) 5).toNatClampNeg 0 (bL_acts_205 x v x7 x8) (0, (v, x)))) := by
    obtain ⟨t0, t1, t2⟩ := low_n (x8 >>> (20 &&& 31)) (n := 5) (by omega) (by omega)
    have et : (1 : Int32) + fL_low (x8 >>> (20 &&& 31)) 5 = nI (1 + t0) := by
      rw [show fL_low (x8 >>> (20 &&& 31)) 5 = nI t0 from t2]; exact nI_add 1 t0
    have b := lines_b (t := 1 + t0) (h := x) (x0 := x) (x7 := x7) (x8 := x8) R0 G hX (by omega) eX
    rw [et, nI_clamp (by omega)]
    generalize lpF (1 + t0) 0 (bL_acts_205 x v x7 x8) (0, (v, x)) = z at b ⊢
    obtain ⟨y12, w, hh⟩ := z
    obtain ⟨b1, b2, b3, b4⟩ := b
    dsimp only at b1 b2 b3 b4
    subst b4
    have e1 : fX2_printLines (hh 0) (nI X) (nI (1 + t0)) = lpF (1 + t0) 0 (bX2_printLines_2 (hh 0) (nI X) (nI (1 + t0))) (hh 0) := by
      unfold fX2_printLines tX2_printLines_2
      rw [nI_clamp (by omega)]
    unfold tL_acts_205 fX5_lines
    dsimp only
    rw [eX, et, s0, e1]
    rw [if_pos]
    · exact ⟨rfl, RLw_now s9 b1 (Gd_mono (by omega) b2)⟩
    · show _ - (hh 0) 8 6 = y12
      rw [b1.2.2.2.2.2.2.2.2, R0.2.2.2.2.2.2.2.2, ← b3, Int32.add_sub_cancel]
  have hrest : ∀ n : Nat, 1 ≤ n → n < 999 → ∀ z : Int32, z = nI n → QA (B + 5) (tL_acts_J116 x v x7 x8 x8 z (v, x)) := by
    rintro n n1 n2 z rfl
    obtain ⟨t0, t1, t2⟩ := low_n x8 (n := n) n1 (by omega)
    have et : (1 : Int32) + fL_low x8 (nI n) = nI (1 + t0) := by rw [t2]; exact nI_add 1 t0
    obtain ⟨b1, b2⟩ := rest_b (t := 1 + t0) R0 G (by omega)
    have hm := most_0 (x := x) (v0 := v) (x7 := x7) (x8 := x8) (y9 := nI (1 + t0)) (p := (fL_passes v (nI (1 + t0)), x)) rfl b2
    have hq := hottestDot_2 b2 b1.1
    unfold tL_acts_J116
    dsimp only
    rw [et, hm]
    unfold tL_acts_136 fX5_rest
    dsimp only
    rw [s0, if_pos hq]
    exact ⟨rfl, RLw_now s9 b1 (Gd_mono (by omega) b2)⟩
  have hpaper : QA (B + 5) (if (fX5_paper x ((upd (upd (v 4) 7 (fL_low x8 3)) 15 0) 7)).2 = v 4 15 then ((mkL (v 0) (v 1) (v 2) (v 3) (upd (upd (v 4) 7 (fL_low x8 3)) 15 0), (fX5_paper x ((upd (upd (v 4) 7 (fL_low x8 3)) 15 0) 7)).1), 1) else ((mkL (v 0) (v 1) (v 2) (v 3) (upd (upd (v 4) 7 (fL_low x8 3)) 15 0), (fX5_paper x ((upd (upd (v 4) 7 (fL_low x8 3)) 15 0) 7)).1), 0)) := by
    obtain ⟨p, p1, p2⟩ := low_n x8 (n := 3) (by omega) (by omega)
    have ep : fL_low x8 3 = nI p := p2
    obtain ⟨b1, b2⟩ := paper_b (p := p) R0 G (by omega)
    have e7 : upd (upd (v 4) 7 (nI p)) 15 0 7 = nI p := by rw [pk_un (by omega), pk_us]
    rw [ep, e7]
    unfold fX5_paper
    dsimp only
    rw [if_pos (show (fX5_saveState x 0) 8 0 = v 4 15 by rw [s0]; exact R0.2.2.2.2.2.1.2.2.2.2.2.2), s0]
    exact ⟨rfl, RLw_now s9 b1 (Gd_mono (by omega) b2)⟩
  have hline : QA (B + 5) (if (fX5_line x (fL_dots x8)).2 = fL_prints v (fL_dots x8) 4 16 then ((fL_prints v (fL_dots x8), (fX5_line x (fL_dots x8)).1), 1) else ((fL_prints v (fL_dots x8), (fX5_line x (fL_dots x8)).1), 0)) := by
    obtain ⟨b1, b2, b3, -⟩ := line_b R0 G hX (by omega)
    rw [eX]
    unfold fX5_line
    dsimp only
    rw [if_pos (show (fX2_printLine (fX5_saveState x 0) (nI X)).2 = _ by rw [s0]; exact b3), s0]
    exact ⟨rfl, RLw_now s9 b1 (Gd_mono (by omega) b2)⟩
  unfold fL_acts
  by_cases k0 : x7 = 0
  · rw [if_pos k0]; exact hs
  rw [if_neg k0]
  by_cases k1 : x7 = 1
  · rw [if_pos k1]; exact hs
  rw [if_neg k1]
  by_cases k2 : x7 = 2
  · rw [if_pos k2]; exact hpaper
  rw [if_neg k2]
  by_cases k3 : x7 = 3
  · rw [if_pos k3]
    split
    · exact hrest 300 (by omega) (by omega) 300 rfl
    · exact hrest 20 (by omega) (by omega) 20 rfl
  rw [if_neg k3]
  by_cases k4 : x7 = 4
  · rw [if_pos k4]; exact hlines
  rw [if_neg k4]
  by_cases k5 : x7 = 5
  · rw [if_pos k5]; exact hlines
  rw [if_neg k5]
  exact hline
