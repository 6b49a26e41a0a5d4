/-! the digest -/
section LPX
variable {σ : Type}
theorem lpF_add (m n : Nat) : ∀ (i : Nat) (b : Nat → σ → σ) (s : σ), lpF (m + n) i b s = lpF n (i + m) b (lpF m i b s) := by
  induction m with
  | zero => intro i b s; rw [Nat.zero_add]; rfl
  | succ m ih =>
    intro i b s
    rw [show m + 1 + n = (m + n) + 1 by omega]
    show lpF (m + n) (i + 1) b (b i s) = lpF n (i + (m + 1)) b (lpF m (i + 1) b (b i s))
    rw [ih, show i + 1 + m = i + (m + 1) by omega]
theorem lpF_sh (n : Nat) : ∀ (i j : Nat) (b : Nat → σ → σ) (s : σ), lpF n (i + j) b s = lpF n j (fun d => b (i + d)) s := by
  induction n with
  | zero => intro i j b s; rfl
  | succ n ih =>
    intro i j b s
    show lpF n (i + j + 1) b (b (i + j) s) = lpF n (j + 1) (fun d => b (i + d)) (b (i + j) s)
    rw [show i + j + 1 = i + (j + 1) by omega, ih]
theorem lpF_block (k : Nat) (hk : 0 < k) (f : Nat → Nat → σ → σ) (n : Nat) : ∀ (i : Nat) (s : σ), lpF (k * n) (k * i) (fun d => f (d / k) (d % k)) s = lpF n i (fun d => lpF k 0 (fun w => f d w)) s := by
  induction n with
  | zero => intro i s; rfl
  | succ n ih =>
    intro i s
    rw [show k * (n + 1) = k + k * n by rw [Nat.mul_succ, Nat.add_comm], lpF_add, show k * i + k = k * (i + 1) by rw [Nat.mul_succ], ih]
    show lpF n (i + 1) _ _ = lpF n (i + 1) _ (lpF k 0 (fun w => f i w) s)
    congr 1
    rw [← Nat.add_zero (k * i), lpF_sh]
    refine lpF_congr k 0 _ _ _ (fun d s _ hd => ?_)
    rw [Nat.mul_add_div hk, Nat.div_eq_of_lt (by omega), Nat.add_zero, Nat.mul_add_mod, Nat.mod_eq_of_lt (by omega)]
end LPX
theorem mix_eq (v : SV) (h x : Int64) : fX6_mix v h x = fX5_mixed h x := rfl
theorem dg_count {x : HV} {v w : SV} {hs : Int64} {B : Nat} (R : RelS (x 0) (w 0)) (G : Gd B (w 0)) (h9 : x 9 2 0 = w 8 0) (h0 : Int64) : lpF 19 0 (bX5_digest_6 x x) h0 = lpF 19 0 (bX6_digest_14 v hs w) h0 :=
  lpF_congr 19 0 _ _ _ (fun d s _ hd => by
    show fX5_mixed s (fX5_counted x (nI d)).toInt64 = fX6_mix w s (fX6_number w (nI d)).toInt64
    rw [count_eq R G h9 (by omega), mix_eq])
theorem dg_dots {x : HV} {v w : SV} {hs : Int64} {B : Nat} (R : RelS (x 0) (w 0)) (G : Gd B (w 0)) (h0 : Int64) : fX5_mixedDots x h0 = lpF 168 0 (bX6_digest_38 v hs w) h0 := by
  have e1 : lpF (7 * 24) (7 * 0) (fun d => (fun a b s => fX5_mixed s (fX6_ofDot w a (nI b)).toInt64) (d / 7) (d % 7)) h0 = lpF 24 0 (fun d => lpF 7 0 (fun b s => fX5_mixed s (fX6_ofDot w d (nI b)).toInt64)) h0 := lpF_block 7 (by omega) (fun a b s => fX5_mixed s (fX6_ofDot w a (nI b)).toInt64) 24 0 h0
  have e2 : lpF 168 0 (bX6_digest_38 v hs w) h0 = lpF (7 * 24) (7 * 0) (fun d => (fun a b s => fX5_mixed s (fX6_ofDot w a (nI b)).toInt64) (d / 7) (d % 7)) h0 :=
    lpF_congr 168 0 _ _ _ (fun d s _ hd => by
      show fX6_mix w s (fX6_ofDot w (d / 7) (nI d - nI d / 7 * 7)).toInt64 = fX5_mixed s (fX6_ofDot w (d / 7) (nI (d % 7))).toInt64
      rw [show nI d - nI d / 7 * 7 = nI (d % 7) from pk_rem (d := 7) (by omega) (by omega) (by omega), mix_eq])
  rw [e2, e1]
  unfold fX5_mixedDots tX5_mixedDots_5
  refine lpF_congr 24 0 _ _ _ (fun d s _ hd => ?_)
  unfold bX5_mixedDots_5 tX5_mixedDots_15
  refine lpF_congr 7 0 _ _ _ (fun b s _ hb => ?_)
  show fX5_mixed s (fX2_numberOfDot (x 0) (nI d) (nI b)).toInt64 = _
  rw [ofDot_eq G R (by omega)]
theorem told_ends {w : SV} {B b i : Nat} (G : Gd B (w 0)) (hb : b < 12) (hb2 : b < aN (w 0) 87) (hi : i < 2 ^ 31) : (i < 24 + (aN (w 0) (90 + 3 * b) - 1) → ¬ fX6_toldAt w b (nI i) = -1) ∧ (24 + (aN (w 0) (90 + 3 * b) - 1) ≤ i → fX6_toldAt w b (nI i) = -1) := by
  obtain ⟨g1, g2⟩ := G.2.2.2.1
  obtain ⟨p1, p2⟩ := G.2.2.2.2.1 b hb
  have t4 : w 0 (88 + 3 * b + 2) = nI (aN (w 0) (90 + 3 * b)) := by rw [show 88 + 3 * b + 2 = 90 + 3 * b by omega]; exact p1
  have hq : ¬ w 0 87 ≤ nI b := by rw [g1]; exact nI_ge hb2 (by omega)
  have e24 : (24 : Int32) + nI (aN (w 0) (90 + 3 * b)) - 2 = nI (24 + aN (w 0) (90 + 3 * b) - 2) := by
    rw [show (24 : Int32) + nI (aN (w 0) (90 + 3 * b)) = nI (24 + aN (w 0) (90 + 3 * b)) from nI_add 24 _]
    exact pk_sub (b := 2) (by omega)
  unfold fX6_toldAt
  rw [if_neg hq, t4, e24]
  by_cases y : i < 24
  · rw [if_pos (show nI i < 24 from nI_lt (b := 24) y (by omega)), if_pos (show nI i < 24 from nI_lt (b := 24) y (by omega))]
    refine ⟨fun _ => ?_, fun h => absurd h (by omega)⟩
    split
    · decide
    · split <;> decide
  · have y' : ¬ nI i < 24 := nI_nlt (b := 24) (by omega) hi
    rw [if_neg y']
    refine ⟨fun h => ?_, fun h => ?_⟩
    · rw [if_pos (nI_le (by omega) (by omega)), if_neg y']
      decide
    · rw [if_neg (nI_ge (by omega) hi)]
theorem textLength_n {s w : SV} {B b : Nat} (R : RelS s (w 0)) (G : Gd B (w 0)) (hb : b < 12) (hb2 : b < aN (w 0) 87) : fX3_textLength s (nI b) = nI (24 + (aN (w 0) (90 + 3 * b) - 1)) := by
  obtain ⟨p1, p2⟩ := G.2.2.2.2.1 b hb
  obtain ⟨a1, a2, a3⟩ := R.2.2.2.2.2.2.1 b hb2 hb
  unfold fX3_textLength
  rw [show fX5_at 12 (s 5) (nI b) = nI (aN (w 0) (90 + 3 * b)) from (atN (s 5) hb (by omega)).trans (a3.trans p1)]
  by_cases z : 1 ≤ aN (w 0) (90 + 3 * b)
  · rw [show nI (aN (w 0) (90 + 3 * b)) - 1 = nI (aN (w 0) (90 + 3 * b) - 1) from pk_sub (b := 1) z]
    by_cases z2 : 0 < aN (w 0) (90 + 3 * b) - 1
    · rw [if_pos (show (0 : Int32) < nI _ from by rw [← nI_0]; exact nI_lt z2 (by omega))]
      exact nI_add 24 _
    · rw [if_neg (show ¬ (0 : Int32) < nI _ from by rw [← nI_0]; exact nI_nlt (by omega) (by omega)), show aN (w 0) (90 + 3 * b) - 1 = 0 by omega]
      rfl
  · rw [show aN (w 0) (90 + 3 * b) = 0 by omega]
    rfl
theorem dg_line {x : HV} {w : SV} {B b : Nat} {hs x1 : Int64} (R : RelS (x 0) (w 0)) (G : Gd B (w 0)) (hb : b < aN (w 0) 87) (h : Int64) : bX5_mixedStrip_14 x x1 b h = bX6_mixStrip_2 w hs b h := by
  obtain ⟨g1, g2⟩ := G.2.2.2.1
  have hb12 : b < 12 := by omega
  obtain ⟨p1, p2⟩ := G.2.2.2.2.1 b hb12
  have hq : ¬ w 0 87 ≤ nI b := by rw [g1]; exact nI_ge hb (by omega)
  have hmR : mR = 60 := rfl
  unfold bX5_mixedStrip_14 tX5_mixedStrip_27 tX5_mixedStrip_66 bX6_mixStrip_2 tX6_mixStrip_15
  dsimp only
  have e3 : lpF 3 0 (bX5_mixedStrip_27 x x1 b) h = lpF 3 0 (bX6_mixStrip_15 w hs b) h := lpF_congr 3 0 _ _ _ (fun k s _ hk => by
    show fX5_mixed s (fX3_numberOfLine (x 0) (nI b) (nI k)).toInt64 = fX6_mix w s (w 0 (88 + 3 * b + k)).toInt64
    rw [kept_eq R G hb12 (by omega), if_neg hq, mix_eq])
  rw [e3]
  obtain ⟨g, eg⟩ : ∃ g, g = lpF 3 0 (bX6_mixStrip_15 w hs b) h := ⟨_, rfl⟩
  rw [← eg, textLength_n R G hb12 hb, nI_clamp (by omega)]
  have e4 : lpF (24 + (aN (w 0) (90 + 3 * b) - 1)) 0 (bX5_mixedStrip_66 x x1 b (nI (24 + (aN (w 0) (90 + 3 * b) - 1)))) g = lpF (24 + (aN (w 0) (90 + 3 * b) - 1)) 0 (fun i s => fX5_mixed s (fX6_toldAt w b (nI i)).toInt64) g := lpF_congr _ 0 _ _ _ (fun i s _ hi => by
    show fX5_mixed s (fX3_sign (x 0) (nI b) (nI i)).toInt64 = _
    rw [told_eq R G hb12 (nI_pos' (by omega))])
  rw [e4]
  generalize hL : 24 + (aN (w 0) (90 + 3 * b) - 1) = L
  have hl : L ≤ 47 := by omega
  refine (lpB_ind (Q := fun s : Int32 × Int64 => s.2 = lpF L 0 (fun i s => fX5_mixed s (fX6_toldAt w b (nI i)).toInt64) g) (fun i s => s = (nI i, lpF i 0 (fun i s => fX5_mixed s (fX6_toldAt w b (nI i)).toInt64) g)) L ?_ ?_ (mR + 1) 0 _ (Nat.zero_le _) (by omega) (by rw [← nI_0]; rfl)).symm
  · rintro i s hi rfl
    have e : bX6_mixStrip_46 w hs b (nI i, lpF i 0 (fun i s => fX5_mixed s (fX6_toldAt w b (nI i)).toInt64) g) = (true, (nI (i + 1), lpF (i + 1) 0 (fun i s => fX5_mixed s (fX6_toldAt w b (nI i)).toInt64) g)) := by
      unfold bX6_mixStrip_46
      dsimp only
      rw [if_neg ((told_ends G hb12 hb (by omega)).1 (by omega)), nI_1, mix_eq, lpF_add i 1]
      rw [Nat.zero_add]
      rfl
    rw [e]
    exact ⟨rfl, rfl⟩
  · rintro s rfl
    have e : bX6_mixStrip_46 w hs b (nI L, lpF L 0 (fun i s => fX5_mixed s (fX6_toldAt w b (nI i)).toInt64) g) = (false, (nI L, lpF L 0 (fun i s => fX5_mixed s (fX6_toldAt w b (nI i)).toInt64) g)) := by
      unfold bX6_mixStrip_46
      dsimp only
      rw [if_pos ((told_ends G hb12 hb (by omega)).2 (by omega))]
    rw [e]
    exact ⟨rfl, rfl⟩
theorem dg_strip {x : HV} {w : SV} {B : Nat} (R : RelS (x 0) (w 0)) (G : Gd B (w 0)) (h : Int64) : fX5_mixedStrip x h = fX6_mixStrip w h := by
  obtain ⟨g1, g2⟩ := G.2.2.2.1
  unfold fX5_mixedStrip tX5_mixedStrip_14 fX6_mixStrip tX6_mixStrip_2
  rw [R.2.2.2.2.2.1.2.2.2.2.2.2]
  exact lpF_congr _ 0 _ _ _ (fun b s _ hb => dg_line R G (by rw [Nat.zero_add] at hb; exact hb) s)
/-- the same but for the room of a printing -/
def SM (v u : SV) : Prop := (∀ k, k < 124 → u 0 k = v 0 k) ∧ u 1 = v 1 ∧ u 2 = v 2 ∧ u 4 = v 4 ∧ ∀ j, j < 9 → j ≠ 3 → j ≠ 4 → j ≠ 5 → u 8 j = v 8 j
theorem SM.rf (v : SV) : SM v v := ⟨fun _ _ => rfl, rfl, rfl, rfl, fun _ _ _ _ _ => rfl⟩
theorem SM.tr {v u z : SV} (h : SM v u) (g : SM u z) : SM v z := ⟨fun k hk => (g.1 k hk).trans (h.1 k hk), g.2.1.trans h.2.1, g.2.2.1.trans h.2.2.1, g.2.2.2.1.trans h.2.2.2.1, fun j a b c d => (g.2.2.2.2 j a b c d).trans (h.2.2.2.2 j a b c d)⟩
theorem brN_congr {r r' : Nat → Int32} (h : ∀ k, k < 124 → r' k = r k) (X q : Nat) : brN r' X q = brN r X q := by
  obtain ⟨e1, e2, e3⟩ := spE_congr (fun k hk => h k (by omega)) X
  have e4 : hoN r' = hoN r := mxN_congr 24 (fun d hd => ⟨rfl, aN_e (h d (by omega))⟩)
  unfold brN fnN
  rw [e1, e2, e3, e4]
def tlX (l : Nat) : Nat := if l < 1 then 16777215 else 5592405
def tlF (r : Nat → Int32) (l q : Nat) (s : Int64) : Int64 := fX5_mixed s (brN r (tlX l) q).toInt64
theorem tlX_lt (l : Nat) : tlX l < 2 ^ 24 := by
  unfold tlX
  split <;> omega
theorem dg_try_6 {v w : SV} {B : Nat} {hs h0 : Int64} (G : Gd B (w 0)) (hB : B + 1 < 2 ^ 30) {z : Int64 × SV} (hz : z = lpF 10 0 (bX6_digest_74 v hs) (h0, w)) : z.1 = lpF 10 0 (fun d => tlF (w 0) (d / 5) (d % 5)) h0 ∧ SM w z.2 := by
  rw [hz]
  refine lpF_0 (fun i (s : Int64 × SV) => s.1 = lpF i 0 (fun d => tlF (w 0) (d / 5) (d % 5)) h0 ∧ SM w s.2) 10 (h0, w) ?_ ⟨rfl, SM.rf w⟩
  intro d s hd hs2
  obtain ⟨c1, c2⟩ := hs2
  have Gs : Gd B (s.2 0) := Gd_row c2.1 G
  have er : nI d - nI d / 5 * 5 = nI (d % 5) := pk_rem (d := 5) (by omega) (by omega) (by omega)
  have key : ∀ X : Nat, X = tlX (d / 5) → ∀ X' : Int32, X' = nI X → (fun (s' : Int64 × SV) => s'.1 = lpF (d + 1) 0 (fun d => tlF (w 0) (d / 5) (d % 5)) h0 ∧ SM w s'.2) (fX6_mix (fX6_wouldBring s.2 X' (nI d - nI d / 5 * 5)).1 s.1 (fX6_wouldBring s.2 X' (nI d - nI d / 5 * 5)).2.toInt64, (fX6_wouldBring s.2 X' (nI d - nI d / 5 * 5)).1) := by
    rintro X hX X' rfl
    rw [er]
    obtain ⟨u, eu⟩ : ∃ u, u = fX6_wouldBring s.2 (nI X) (nI (d % 5)) := ⟨_, rfl⟩
    rw [← eu]
    obtain ⟨u1, u2, u3, u4, u5, u6⟩ := bring_6 Gs (by rw [hX]; exact tlX_lt _) hB (Nat.mod_lt _ (by omega)) eu
    refine ⟨?_, c2.tr ⟨u2, u3, u4, u5, u6⟩⟩
    show fX6_mix u.1 s.1 u.2.toInt64 = _
    rw [mix_eq, u1, brN_congr c2.1, c1, lpF_add d 1, Nat.zero_add, hX]
    rfl
  unfold bX6_digest_74
  dsimp only
  by_cases h : 5 ≤ d
  · rw [if_pos (show (5 : Int32) ≤ nI d from nI_le (a := 5) h (by omega))]
    exact key 5592405 (by unfold tlX; rw [if_neg (by omega)]) _ rfl
  · rw [if_neg (show ¬ (5 : Int32) ≤ nI d from nI_ge (b := 5) (by omega) (by omega))]
    exact key 16777215 (by unfold tlX; rw [if_pos (by omega)]) _ rfl
theorem dg_try_5 {x : HV} {r : Nat → Int32} {B : Nat} {h0 : Int64} (R : RelS (x 0) r) (G : Gd B r) (hB : B + 1 < 2 ^ 30) {y : HV × Int64} (hy : y = fX5_mixedTrials x h0) : (∃ t, y.1 = mkH (x 0) (x 1) t (x 3) (x 4) (x 5) (x 6) (x 7) (x 8) (x 9 0) (x 9 1) (x 9 2 0) (x 9 2 1) (x 9 2 2)) ∧ y.2 = lpF 10 0 (fun d => tlF r (d / 5) (d % 5)) h0 := by
  obtain ⟨-, -, -, -, -, ⟨h79, hw⟩, -⟩ := SI_n G.1
  have key : ∀ (z : HV), z 0 = x 0 → (∀ t, mkH (z 0) (z 1) t (z 3) (z 4) (z 5) (z 6) (z 7) (z 8) (z 9 0) (z 9 1) (z 9 2 0) (z 9 2 1) (z 9 2 2) = mkH (x 0) (x 1) t (x 3) (x 4) (x 5) (x 6) (x 7) (x 8) (x 9 0) (x 9 1) (x 9 2 0) (x 9 2 1) (x 9 2 2)) → ∀ (l : Nat) (X' : Int32) (s : Int64) (d5 : Nat), X' = nI (tlX l) → ∃ t, tX5_mixedTrials_J26 x h0 d5 s X' z = (lpF 5 0 (fun q => tlF r l q) s, mkH (x 0) (x 1) t (x 3) (x 4) (x 5) (x 6) (x 7) (x 8) (x 9 0) (x 9 1) (x 9 2 0) (x 9 2 1) (x 9 2 2)) := by
    rintro z z0 hz l X' s d5 rfl
    have Rx : RelS (z 0) r := by rw [z0]; exact R
    have es : fX2_setting (z 0) 5 = nI (aN r 79) := ((at7 (z 0 2) 5 (by omega)).trans (Rx.2.2.2.2.1 5 (by omega))).trans h79
    obtain ⟨y, ey⟩ : ∃ y, y = fX5_tryLine z (nI (tlX l)) (nI (aN r 79)) := ⟨_, rfl⟩
    obtain ⟨⟨t2, et⟩, y1⟩ := try_5 Rx G (tlX_lt l) hw hB ey
    refine ⟨t2, ?_⟩
    unfold tX5_mixedTrials_J26 tX5_mixedTrials_40
    dsimp only
    rw [es, ← ey]
    have e5 : lpF 5 0 (bX5_mixedTrials_40 x h0 d5 y) s = lpF 5 0 (fun q => tlF r l q) s := lpF_congr 5 0 _ _ _ (fun q s _ hq => by
      show fX5_mixed s (fX5_tried y (nI q)).toInt64 = fX5_mixed s (brN r (tlX l) q).toInt64
      rw [y1 q (by omega), upd_self h79])
    rw [e5, et, hz]
  have e10 : lpF 10 0 (fun d => tlF r (d / 5) (d % 5)) h0 = lpF 5 0 (fun q => tlF r 1 q) (lpF 5 0 (fun q => tlF r 0 q) h0) := lpF_block 5 (by omega) (fun l q => tlF r l q) 2 0 h0
  obtain ⟨t0, a0⟩ := key x rfl (fun _ => rfl) 0 16777215 h0 0 rfl
  obtain ⟨t1, a1⟩ := key (mkH (x 0) (x 1) t0 (x 3) (x 4) (x 5) (x 6) (x 7) (x 8) (x 9 0) (x 9 1) (x 9 2 0) (x 9 2 1) (x 9 2 2)) rfl (fun _ => rfl) 1 5592405 (lpF 5 0 (fun q => tlF r 0 q) h0) 1 rfl
  have b0 : bX5_mixedTrials_5 x h0 0 (h0, x) = (lpF 5 0 (fun q => tlF r 0 q) h0, mkH (x 0) (x 1) t0 (x 3) (x 4) (x 5) (x 6) (x 7) (x 8) (x 9 0) (x 9 1) (x 9 2 0) (x 9 2 1) (x 9 2 2)) := by
    unfold bX5_mixedTrials_5
    dsimp only
    rw [if_pos (show nI 0 = (0 : Int32) from nI_0)]
    exact a0
  have b1 : bX5_mixedTrials_5 x h0 1 (lpF 5 0 (fun q => tlF r 0 q) h0, mkH (x 0) (x 1) t0 (x 3) (x 4) (x 5) (x 6) (x 7) (x 8) (x 9 0) (x 9 1) (x 9 2 0) (x 9 2 1) (x 9 2 2)) = (lpF 5 0 (fun q => tlF r 1 q) (lpF 5 0 (fun q => tlF r 0 q) h0), mkH (x 0) (x 1) t1 (x 3) (x 4) (x 5) (x 6) (x 7) (x 8) (x 9 0) (x 9 1) (x 9 2 0) (x 9 2 1) (x 9 2 2)) := by
    unfold bX5_mixedTrials_5
    dsimp only
    rw [if_neg (by decide)]
    exact a1
  have e2 : lpF 2 0 (bX5_mixedTrials_5 x h0) (h0, x) = bX5_mixedTrials_5 x h0 1 (bX5_mixedTrials_5 x h0 0 (h0, x)) := rfl
  have e : y = (mkH (x 0) (x 1) t1 (x 3) (x 4) (x 5) (x 6) (x 7) (x 8) (x 9 0) (x 9 1) (x 9 2 0) (x 9 2 1) (x 9 2 2), lpF 5 0 (fun q => tlF r 1 q) (lpF 5 0 (fun q => tlF r 0 q) h0)) := by
    rw [hy]
    unfold fX5_mixedTrials tX5_mixedTrials_5
    rw [e2, b0, b1]
  rw [e, e10]
  exact ⟨⟨t1, rfl⟩, rfl⟩
theorem dg_buffer {n : Nat} {x y : HV} {v u : SV} {hs : Int64} {z : SV} (R : RelH n x v) (y0 : y 9 0 = x 9 0) (y2 : y 9 2 2 = x 9 2 2) (u4 : u 4 = v 4) (u6 : u 8 6 = v 8 6) (h : Int64) : fX5_mixedBuffer y h = lpF ((u 8 6).toNatClampNeg) 0 (bX6_digest_176 z hs u) (fX6_mix u h ((u 8 6).toInt64)) := by
  obtain ⟨l, l1, l2, l3, l4⟩ := R.2.2.2.1
  unfold fX5_mixedBuffer tX5_mixedBuffer_16
  dsimp only
  rw [y2, u6, l2, l3, nI_clamp (by omega), mix_eq]
  refine lpF_congr l 0 _ _ _ (fun i s _ hi => ?_)
  show fX5_mixed s (fX0_codeAt (mkB (y 9 0) (y 9 2 2)) (nI i)).toInt64 = fX6_mix u s ((u 4) i).toInt64
  rw [mix_eq, u4, show fX0_codeAt (mkB (y 9 0) (y 9 2 2)) (nI i) = y 9 0 i from atN (y 9 0) (by omega) (by omega), y0, (l4 i (by omega)).1]
theorem op_digest {n : Nat} {x : HV} {v : SV} (hs : Int64) (R : RelH n x v) (hn : n < 512) : RelH (n + 1) (fX5_digest x).1 (fX6_digest v hs).1.1 ∧ (fX5_digest x).2 = (fX6_digest v hs).2 := by
  have Rt := RelH_thr R
  obtain ⟨w, ew⟩ : ∃ w, w = thr0 v := ⟨_, rfl⟩
  rw [← ew] at Rt
  have hB : 300 * n + 1 < 2 ^ 30 := by omega
  -- up to the strip
  obtain ⟨h1, eh1⟩ : ∃ h1, h1 = fX6_mixStrip w (lpF 168 0 (bX6_digest_38 v hs w) (lpF 19 0 (bX6_digest_14 v hs w) 3833)) := ⟨_, rfl⟩
  have a1 : fX5_mixedStrip x (fX5_mixedDots x (lpF 19 0 (bX5_digest_6 x x) 3833)) = h1 := by
    rw [eh1, dg_count (v := v) (hs := hs) Rt.1.1 Rt.1.2 Rt.cnt, dg_dots (v := v) (hs := hs) Rt.1.1 Rt.1.2, dg_strip Rt.1.1 Rt.1.2]
  obtain ⟨y, ey⟩ : ∃ y, y = fX5_mixedTrials x h1 := ⟨_, rfl⟩
  obtain ⟨⟨t1, et1⟩, y2⟩ := dg_try_5 Rt.1.1 Rt.1.2 hB ey
  obtain ⟨z, ez⟩ : ∃ z, z = lpF 10 0 (bX6_digest_74 v hs) (h1, w) := ⟨_, rfl⟩
  obtain ⟨z1, z2⟩ := dg_try_6 Rt.1.2 hB ez
  have R2 : RelH n y.1 z.2 := by
    rw [et1]
    exact RelH_u (RelH_t Rt t1) z2.1 z2.2.1 z2.2.2.1 z2.2.2.2.1 z2.2.2.2.2
  have y0 : y.1 9 0 = x 9 0 := by rw [et1]; rfl
  have y02 : y.1 9 2 2 = x 9 2 2 := by rw [et1]; rfl
  -- the better way
  obtain ⟨b, eb⟩ : ∃ b, b = fX5_fasterWay y.1 65535 := ⟨_, rfl⟩
  obtain ⟨⟨t2, et2⟩, b2⟩ := better_5 R2 (by omega) (X := 65535) (by omega) eb
  obtain ⟨c, ec⟩ : ∃ c, c = fX6_better z.2 65535 := ⟨_, rfl⟩
  obtain ⟨c1, c2, c3, c4, c5, c6⟩ := better_6 R2.1.2 (X := 65535) (by omega) hB ec
  have R3 : RelH n b.1 c.1 := by
    rw [et2]
    exact RelH_u (RelH_t R2 t2) c2 c3 c4 c5 c6
  have b9 : b.1 9 0 = x 9 0 := by rw [et2]; exact y0
  have b92 : b.1 9 2 2 = x 9 2 2 := by rw [et2]; exact y02
  obtain ⟨s1, s2, s3⟩ := share_eq R3.1.1 R3.1.2 (by omega)
  obtain ⟨m1, m2⟩ := mean_eq R3.1.1 R3.1.2
  have k1 : fX2_timeUntilCool (b.1 0) 50 = fX6_timeToCool c.1 50 := coolIn_eq (m := 50) R3.1.2 R3.1.1 (by omega)
  have k2 : fX2_leastDarkSetting (b.1 0) 0 = fX6_leastDark c.1 0 := by
    rw [← nI_0]
    exact darkFrom_eq (d := 0) R3.1.2 R3.1.1 (by omega)
  have e5 : fX5_digest x = (b.1, fX5_mixedBuffer b.1 (fX5_mixed (fX5_mixed (fX5_mixed (fX5_mixed (fX5_mixed y.2 b.2.toInt64) ((fX2_timeUntilCool (b.1 0) 50).toInt64)) ((fX2_leastDarkSetting (b.1 0) 0).toInt64)) (fX5_bitsOfDouble (fX4_darkShare (b.1 0)))) ((fX5_bitsOfFloat (fX2_mean (b.1 0))).toInt64))) := by
    unfold fX5_digest tX5_digest_6
    dsimp only
    rw [a1, ← ey, ← eb]
  have e6 : fX6_digest v hs = tX6_digest_176 v hs c.1 (lpF ((c.1 8 6).toNatClampNeg) 0 (bX6_digest_176 v hs c.1) (fX6_mix c.1 (fX6_mix c.1 (fX6_mix c.1 (fX6_mix c.1 (fX6_mix c.1 (fX6_mix c.1 z.1 c.2.toInt64) ((fX6_timeToCool c.1 50).toInt64)) ((fX6_leastDark c.1 0).toInt64)) (fJxe99ae_doubleToLongBits_ccdee (fX6_share c.1))) ((fJxf58ca_floatToIntBits_5c35a (fX6_mean c.1)).toInt64)) ((c.1 8 6).toInt64))) := by
    have q : fX6_digest v hs = tX6_digest_74 v hs (lpF 10 0 (bX6_digest_74 v hs) (fX6_mixStrip w (lpF 168 0 (bX6_digest_38 v hs w) (lpF 19 0 (bX6_digest_14 v hs w) 3833)), w)) := by
      rw [ew]
      rfl
    rw [q, ← eh1, ← ez]
    unfold tX6_digest_74
    dsimp only
    rw [← ec]
  have e7 := dg_buffer (n := n) (x := b.1) (y := b.1) (v := c.1) (u := c.1) (hs := hs) (z := v) R3 rfl rfl rfl rfl (fX6_mix c.1 (fX6_mix c.1 (fX6_mix c.1 (fX6_mix c.1 (fX6_mix c.1 z.1 c.2.toInt64) ((fX6_timeToCool c.1 50).toInt64)) ((fX6_leastDark c.1 0).toInt64)) (fJxe99ae_doubleToLongBits_ccdee (fX6_share c.1))) ((fJxf58ca_floatToIntBits_5c35a (fX6_mean c.1)).toInt64))
  rw [e5, e6, ← e7]
  refine ⟨R3.mono (by omega), ?_⟩
  show fX5_mixedBuffer b.1 _ = fX5_mixedBuffer b.1 _
  rw [mix_eq, mix_eq, mix_eq, mix_eq, mix_eq, y2, ← z1, b2.trans c1.symm, k1, k2, s2, m2]
