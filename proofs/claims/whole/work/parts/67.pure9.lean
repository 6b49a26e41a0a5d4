/-! the pulse of a dot -/
def plI (p l b x dd s : Int32) : Int32 := (if 20 < ((s + (fX5_at 3 st3 p)) - (((20 * (fX5_bitOf l dd)) + (10 * (fX5_bitOf b dd))) + (5 * ((fX5_bitOf x (dd - 1)) + (fX5_bitOf x (dd + 1)))))) then ((s + (fX5_at 3 st3 p)) - (((20 * (fX5_bitOf l dd)) + (10 * (fX5_bitOf b dd))) + (5 * ((fX5_bitOf x (dd - 1)) + (fX5_bitOf x (dd + 1)))))) else 20)
theorem pulseIn_pl (v : SV) (x1 x2 x3 : Int32) : fX2_pulseIn v x1 x2 x3 = plI (v 8 10) (v 8 8) (v 8 9) x1 x2 x3 := rfl
theorem ge20 (E : Int32) : (if 20 ≤ E then E else 20) = (if 20 < E then E else 20) := by
  by_cases h : 20 < E
  · rw [if_pos h, if_pos (Int32.le_of_lt h)]
  · rw [if_neg h]
    split
    · rename_i k
      exact Int32.le_antisymm (Int32.not_lt.mp h) k
    · rfl
theorem pulseBy_J {w : SV} (x1 x2 x3 z : Int32) : tX6_pulseBy_J32 w x1 x2 x3 z = (if 20 < ((x3 + z) - (((20 * (fX5_bitOf (w 0 24) x2)) + (10 * (fX5_bitOf (w 0 25) x2))) + (5 * ((fX5_bitOf x1 (x2 - 1)) + (fX5_bitOf x1 (x2 + 1)))))) then ((x3 + z) - (((20 * (fX5_bitOf (w 0 24) x2)) + (10 * (fX5_bitOf (w 0 25) x2))) + (5 * ((fX5_bitOf x1 (x2 - 1)) + (fX5_bitOf x1 (x2 + 1)))))) else 20) := by
  unfold tX6_pulseBy_J32
  rw [bit_eq, bit_eq, bit_eq, bit_eq, Int32.sub_sub, Int32.sub_sub, ge20, ← Int32.add_assoc]
theorem st3_0 : fX5_at 3 st3 (nI 0) = 0 := by decide +kernel
theorem st3_1 : fX5_at 3 st3 (nI 1) = -15 := by decide +kernel
theorem st3_2 : fX5_at 3 st3 (nI 2) = 25 := by decide +kernel
theorem pulseBy_pl {w : SV} {p : Nat} (hp : w 0 81 = nI p) (hp2 : p ≤ 2) (x1 x2 x3 : Int32) : fX6_pulseBy w x1 x2 x3 = plI (w 0 81) (w 0 24) (w 0 25) x1 x2 x3 := by
  unfold fX6_pulseBy
  rw [hp]
  match p, hp2 with
  | 0, _ =>
    rw [if_pos (by decide), pulseBy_J]
    unfold plI
    rw [st3_0]
  | 1, _ =>
    rw [if_neg (by decide), if_pos (by decide), pulseBy_J]
    unfold plI
    rw [st3_1]
  | 2, _ =>
    rw [if_neg (by decide), if_neg (by decide), pulseBy_J]
    unfold plI
    rw [st3_2]
  | p + 3, h => exact absurd h (by omega)
theorem bit_n (x y : Int32) : ∃ n, n ≤ 1 ∧ fX5_bitOf x y = nI n := by
  rcases bit01 x y with h | h
  · exact ⟨0, by omega, h.trans nI_0.symm⟩
  · exact ⟨1, by omega, h⟩
theorem pl_base {p s : Nat} (hp : p ≤ 2) (h1 : 50 ≤ s) (h2 : s ≤ 300) : ∃ n, 35 ≤ n ∧ n ≤ 325 ∧ nI s + fX5_at 3 st3 (nI p) = nI n := by
  match p, hp with
  | 0, _ => exact ⟨s, by omega, by omega, by rw [st3_0, ← nI_0, nI_add]; rfl⟩
  | 1, _ => exact ⟨s - 15, by omega, by omega, by rw [st3_1, ← pk_sub (by omega), Int32.sub_eq_add_neg]; rfl⟩
  | 2, _ => exact ⟨s + 25, by omega, by omega, by rw [st3_2]; exact nI_add s 25⟩
  | p + 3, h => exact absurd h (by omega)
theorem plI_n {p s : Nat} (hp : p ≤ 2) (h1 : 50 ≤ s) (h2 : s ≤ 300) (l b x dd : Int32) : ∃ n, 20 ≤ n ∧ n ≤ 325 ∧ plI (nI p) l b x dd (nI s) = nI n := by
  obtain ⟨B, hB1, hB2, eB⟩ := pl_base hp h1 h2
  obtain ⟨a1, l1, e1⟩ := bit_n l dd
  obtain ⟨a2, l2, e2⟩ := bit_n b dd
  obtain ⟨a3, l3, e3⟩ := bit_n x (dd - 1)
  obtain ⟨a4, l4, e4⟩ := bit_n x (dd + 1)
  have eL : ((20 : Int32) * nI a1 + 10 * nI a2) + 5 * (nI a3 + nI a4) = nI (20 * a1 + 10 * a2 + 5 * (a3 + a4)) := by
    rw [show (20 : Int32) * nI a1 = nI (20 * a1) from pk_mul 20 a1, show (10 : Int32) * nI a2 = nI (10 * a2) from pk_mul 10 a2, nI_add a3 a4, show (5 : Int32) * nI (a3 + a4) = nI (5 * (a3 + a4)) from pk_mul 5 (a3 + a4), nI_add, nI_add]
  unfold plI
  rw [eB, e1, e2, e3, e4, eL]
  have hL : 20 * a1 + 10 * a2 + 5 * (a3 + a4) ≤ 40 := by omega
  generalize 20 * a1 + 10 * a2 + 5 * (a3 + a4) = L at hL ⊢
  by_cases q : L ≤ B
  · rw [pk_sub q]
    by_cases z : 20 < B - L
    · exact ⟨B - L, by omega, by omega, if_pos (nI_lt (a := 20) z (by omega))⟩
    · exact ⟨20, by omega, by omega, if_neg (nI_nlt (b := B - L) (a := 20) (by omega) (by omega))⟩
  · refine ⟨20, by omega, by omega, if_neg (fun z => ?_)⟩
    by_cases k : L < 2 ^ 30
    · have h3 := pk_sneg (a := B) (b := L) k (by omega)
      exact absurd (Int32.lt_trans (show (0 : Int32) < 20 by decide) z) (Int32.not_lt.mpr (Int32.le_of_lt h3))
    · omega
/-- the pulse of a dot by the row of the reference -/
def psN (r : Nat → Int32) (x : Int32) (d : Nat) (s : Int32) : Nat := (plI (r 81) (r 24) (r 25) x (nI d) s).toNatClampNeg
theorem psN_spec {r : Nat → Int32} {s : Nat} (hI : SI r) (x : Int32) (d : Nat) (h1 : 50 ≤ s) (h2 : s ≤ 300) : plI (r 81) (r 24) (r 25) x (nI d) (nI s) = nI (psN r x d (nI s)) ∧ 20 ≤ psN r x d (nI s) ∧ psN r x d (nI s) ≤ 325 := by
  obtain ⟨-, -, -, -, -, -, -, p, hp, e⟩ := hI
  obtain ⟨n, a1, a2, a3⟩ := plI_n hp h1 h2 (r 24) (r 25) x (nI d)
  have e2 : psN r x d (nI s) = n := by
    unfold psN
    rw [e, a3, nI_clamp (by omega)]
  rw [e2, e]
  exact ⟨a3, a1, a2⟩
def pN (r : Nat → Int32) (X d : Nat) : Nat := psN r (nI X) d (r 74)
theorem pN_spec {r : Nat → Int32} (hI : SI r) (X d : Nat) : plI (r 81) (r 24) (r 25) (nI X) (nI d) (r 74) = nI (pN r X d) ∧ 20 ≤ pN r X d ∧ pN r X d ≤ 325 := by
  obtain ⟨s, h1, h2, e⟩ := hI.1
  have h := psN_spec hI (nI X) d h1 h2
  unfold pN
  rw [e]
  exact h
theorem preparePulses_2 {v : SV} {r : Nat → Int32} {X : Nat} (hI : SI r) (h1 : v 8 10 = r 81) (h2 : v 8 8 = r 24) (h3 : v 8 9 = r 25) (h4 : v 2 0 = r 74) :
    (∀ d, d < 24 → fX2_preparePulses v (nI X) 1 d = nI (pN r X d)) ∧ fX2_preparePulses v (nI X) 0 = v 0 ∧ (∀ k, 2 ≤ k → k < 8 → fX2_preparePulses v (nI X) k = v k) ∧ (∀ k, k < 11 → fX2_preparePulses v (nI X) 8 k = v 8 k) := by
  have e : fX2_preparePulses v (nI X) = lpF 24 0 (bX2_preparePulses_11 v (nI X) (r 74)) v := by
    unfold fX2_preparePulses tX2_preparePulses_11
    rw [show fX5_at 7 (v 2) 0 = r 74 from (at7 (v 2) 0 (by omega)).trans h4]
  rw [e]
  refine lpF_0 (fun i (s : SV) => (∀ d, d < i → s 1 d = nI (pN r X d)) ∧ s 0 = v 0 ∧ (∀ k, 2 ≤ k → k < 8 → s k = v k) ∧ (∀ k, k < 11 → s 8 k = v 8 k)) 24 v ?_ ⟨fun d hd => absurd hd (Nat.not_lt_zero d), rfl, fun _ _ _ => rfl, fun _ _ => rfl⟩
  intro d s hd hs
  obtain ⟨c1, c2, c3, c4⟩ := hs
  have e : fX2_pulseIn s (nI X) (nI d) (r 74) = nI (pN r X d) := by
    rw [pulseIn_pl, c4 10 (by omega), c4 8 (by omega), c4 9 (by omega), h1, h2, h3]
    exact (pN_spec hI X d).1
  have eb : bX2_preparePulses_11 v (nI X) (r 74) d s = mkS (s 0) (upd (s 1) d (nI (pN r X d))) (s 2) (s 3) (s 4) (s 5) (s 6) (s 7) (s 8 0) (s 8 1) (s 8 2) (s 8 3) (s 8 4) (s 8 5) (s 8 6) (s 8 7) (s 8 8) (s 8 9) (s 8 10) := by
    unfold bX2_preparePulses_11
    dsimp only
    rw [e]
  rw [eb]
  refine ⟨fun j hj => ?_, c2, fun k k1 k2 => ?_, al11 (c4 0 (by omega)) (c4 1 (by omega)) (c4 2 (by omega)) (c4 3 (by omega)) (c4 4 (by omega)) (c4 5 (by omega)) (c4 6 (by omega)) (c4 7 (by omega)) (c4 8 (by omega)) (c4 9 (by omega)) (c4 10 (by omega))⟩
  · show upd (s 1) d (nI (pN r X d)) j = _
    by_cases z : j = d
    · subst z
      exact pk_us
    · rw [pk_un z]
      exact c1 j (by omega)
  · exact al8 (P := fun k => 2 ≤ k → mkS (s 0) (upd (s 1) d (nI (pN r X d))) (s 2) (s 3) (s 4) (s 5) (s 6) (s 7) (s 8 0) (s 8 1) (s 8 2) (s 8 3) (s 8 4) (s 8 5) (s 8 6) (s 8 7) (s 8 8) (s 8 9) (s 8 10) k = v k) (fun h => absurd h (by omega)) (fun h => absurd h (by omega)) (fun _ => c3 2 (by omega) (by omega)) (fun _ => c3 3 (by omega) (by omega)) (fun _ => c3 4 (by omega) (by omega)) (fun _ => c3 5 (by omega) (by omega)) (fun _ => c3 6 (by omega) (by omega)) (fun _ => c3 7 (by omega) (by omega)) k k2 k1
theorem one_nb : ∀ d, d < 24 → fX5_bitOf ((1 : Int32) <<< (nI d &&& 31)) (nI d - 1) = 0 ∧ fX5_bitOf ((1 : Int32) <<< (nI d &&& 31)) (nI d + 1) = 0 := by decide +kernel
theorem zero_nb (x : Int32) : fX5_bitOf 0 x = 0 := by
  unfold fX5_bitOf
  split
  · rfl
  · split
    · rfl
    · rw [Int32.zero_shiftRight, Int32.zero_and]
/-- printing alone: the reference tells the dot itself, the class no line -/
theorem pl_alone (p l b s : Int32) {d : Nat} (hd : d < 24) : plI p l b ((1 : Int32) <<< (nI d &&& 31)) (nI d) s = plI p l b 0 (nI d) s := by
  obtain ⟨h1, h2⟩ := one_nb d hd
  unfold plI
  rw [h1, h2, zero_nb, zero_nb]
/-! how many dots print at once, how many parts -/
def aN (r : Nat → Int32) (k : Nat) : Nat := (r k).toNatClampNeg
theorem aN_i {r : Nat → Int32} {k c : Nat} (h : r k = nI c) (hc : c < 2 ^ 31) : aN r k = c := by
  unfold aN
  rw [h, nI_clamp hc]
def aoN (r : Nat → Int32) : Nat := max 1 (aN r 78 / aN r 77)
theorem SI_n {r : Nat → Int32} (hI : SI r) : (r 74 = nI (aN r 74) ∧ 50 ≤ aN r 74 ∧ aN r 74 ≤ 300) ∧ (r 75 = nI (aN r 75) ∧ 5 ≤ aN r 75 ∧ aN r 75 ≤ 200) ∧ (r 76 = nI (aN r 76) ∧ 330 ≤ aN r 76 ∧ aN r 76 ≤ 900) ∧ (r 77 = nI (aN r 77) ∧ 1 ≤ aN r 77 ∧ aN r 77 ≤ 20) ∧ (r 78 = nI (aN r 78) ∧ 1 ≤ aN r 78 ∧ aN r 78 ≤ 200) ∧ (r 79 = nI (aN r 79) ∧ aN r 79 ≤ 1) ∧ (r 80 = nI (aN r 80) ∧ aN r 80 ≤ 50) ∧ (r 81 = nI (aN r 81) ∧ aN r 81 ≤ 2) := by
  obtain ⟨⟨c0, a0, b0, e0⟩, ⟨c1, a1, b1, e1⟩, ⟨c2, a2, b2, e2⟩, ⟨c3, a3, b3, e3⟩, ⟨c4, a4, b4, e4⟩, ⟨c5, b5, e5⟩, ⟨c6, b6, e6⟩, c7, b7, e7⟩ := hI
  rw [aN_i e0 (by omega), aN_i e1 (by omega), aN_i e2 (by omega), aN_i e3 (by omega), aN_i e4 (by omega), aN_i e5 (by omega), aN_i e6 (by omega), aN_i e7 (by omega)]
  exact ⟨⟨e0, a0, b0⟩, ⟨e1, a1, b1⟩, ⟨e2, a2, b2⟩, ⟨e3, a3, b3⟩, ⟨e4, a4, b4⟩, ⟨e5, b5⟩, ⟨e6, b6⟩, e7, b7⟩
theorem aoN_le {r : Nat → Int32} (hI : SI r) : 1 ≤ aoN r ∧ aoN r ≤ 200 := by
  obtain ⟨-, -, -, -, ⟨-, -, h⟩, -⟩ := SI_n hI
  unfold aoN
  exact ⟨Nat.le_max_left _ _, Nat.max_le.mpr ⟨by omega, Nat.le_trans (Nat.div_le_self _ _) h⟩⟩
theorem ao_i {r : Nat → Int32} (hI : SI r) : r 78 / r 77 = nI (aN r 78 / aN r 77) ∧ aN r 78 / aN r 77 ≤ 200 := by
  obtain ⟨-, -, -, ⟨e3, a3, b3⟩, ⟨e4, a4, b4⟩, -⟩ := SI_n hI
  exact ⟨by rw [e3, e4, pk_div (by omega) (by omega) (by omega)], Nat.le_trans (Nat.div_le_self _ _) b4⟩
theorem atOnce_6 {w : SV} (hI : SI (w 0)) : fX6_atOnce w = nI (aoN (w 0)) := by
  obtain ⟨e, hl⟩ := ao_i hI
  unfold fX6_atOnce aoN
  rw [e]
  by_cases h : 1 ≤ aN (w 0) 78 / aN (w 0) 77
  · rw [if_pos (show (1 : Int32) ≤ nI _ from nI_le (a := 1) h (by omega)), Nat.max_eq_right h]
  · rw [if_neg (show ¬ (1 : Int32) ≤ nI _ from nI_ge (b := 1) (by omega) (by omega)), Nat.max_eq_left (by omega)]
    rfl
theorem dotsAtOnce_2 {v : SV} {r : Nat → Int32} (hI : SI r) (h3 : v 2 3 = r 77) (h4 : v 2 4 = r 78) : fX2_dotsAtOnce v = nI (aoN r) := by
  obtain ⟨e, hl⟩ := ao_i hI
  obtain ⟨-, -, -, ⟨e3, a3, b3⟩, -⟩ := SI_n hI
  unfold fX2_dotsAtOnce aoN
  rw [show fX5_at 7 (v 2) 3 = r 77 from (at7 (v 2) 3 (by omega)).trans h3, show fX5_at 7 (v 2) 4 = r 78 from (at7 (v 2) 4 (by omega)).trans h4, e, if_pos (show (1 : Int32) ≤ r 77 by rw [e3]; exact nI_le (a := 1) a3 (by omega))]
  exact imx (a := 1) (by omega) (by omega)
theorem smN_cnt (X n : Nat) : smN n (fun d => (X.testBit d).toNat) = cntN X n := by
  induction n with
  | zero => rfl
  | succ n ih =>
    show smN n (fun d => (X.testBit d).toNat) + (X.testBit n).toNat = cntN X n + (X.testBit n).toNat
    rw [ih]
theorem ones_6 {X : Nat} (hX : X < 2 ^ 31) : fX6_ones (nI X) = nI (cntN X 24) := by
  unfold fX6_ones tX6_ones_4
  dsimp only
  refine lpF_0 (fun i s => s = nI (cntN X i)) 24 0 ?_ (by rw [← nI_0]; rfl)
  rintro d s hd rfl
  unfold bX6_ones_4
  dsimp only
  have h : X / 2 ^ d < 2 ^ 31 := Nat.lt_of_le_of_lt (Nat.div_le_self _ _) hX
  rw [pk_shrN hX _ d (s_l d (by omega)), show nI (X / 2 ^ d) &&& 1 = nI (X / 2 ^ d % 2) from pk_andN (Nat.lt_of_lt_of_le h (by decide)) 1 rfl, ← Nat.toNat_testBit, nI_add]
  rfl
def ptN (r : Nat → Int32) (X : Nat) : Nat := (cntN X 24 + aoN r - 1) / aoN r
theorem ptN_le {r : Nat → Int32} (hI : SI r) (X : Nat) : ptN r X ≤ 24 := by
  have h := (aoN_le hI).1
  have hc := cntN_le X 24
  unfold ptN
  generalize aoN r = a at h ⊢
  rw [Nat.div_le_iff_le_mul_add_pred (by omega)]
  have : 24 ≤ a * 24 := Nat.le_mul_of_pos_left 24 (by omega)
  omega
theorem parts_i {r : Nat → Int32} (hI : SI r) (X : Nat) : ((nI (cntN X 24) + nI (aoN r)) - 1) / nI (aoN r) = nI (ptN r X) := by
  obtain ⟨h1, h2⟩ := aoN_le hI
  have hc := cntN_le X 24
  rw [nI_add, show nI (cntN X 24 + aoN r) - 1 = nI (cntN X 24 + aoN r - 1) from pk_sub (b := 1) (by omega), pk_div (by omega) (by omega) (by omega)]
  rfl
theorem partsOf_6 {w : SV} {X : Nat} (hI : SI (w 0)) (hX : X < 2 ^ 31) : fX6_partsOf w (nI X) = nI (ptN (w 0) X) := by
  unfold fX6_partsOf
  rw [atOnce_6 hI, ones_6 hX]
  exact parts_i hI X
theorem pt_lt {r : Nat → Int32} (hI : SI r) {X d : Nat} (hd : d < 24) (hb : X.testBit d = true) : prt (aN r 79) (ptN r X) (aoN r) X d < ptN r X := by
  obtain ⟨h1, h2⟩ := aoN_le hI
  have hc : cntN X d < cntN X 24 := by
    have := cntN_mono X (show d + 1 ≤ 24 by omega)
    rw [cntN_t hb] at this
    omega
  have hp : 0 < ptN r X := Nat.div_pos (by omega) (by omega)
  unfold prt
  split
  · exact Nat.mod_lt _ hp
  · unfold ptN
    rw [Nat.div_lt_iff_lt_mul (by omega)]
    have h3 := Nat.div_add_mod (cntN X 24 + aoN r - 1) (aoN r)
    have h4 := Nat.mod_lt (cntN X 24 + aoN r - 1) (show aoN r > 0 by omega)
    rw [Nat.mul_comm]
    omega
