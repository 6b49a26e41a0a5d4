def fX6_toldAt (v : SV) (x1 : Nat) (x2 : Int32) : Int32 := if ((v 0) 87) ≤ (nI x1) then ((-1)) else (if x2 < 24 then (if x2 < 24 then (if (fX6_bit ((v 0) (88 + (3 * x1))) x2) = 1 then (35) else (if (fX6_bit ((v 0) ((88 + (3 * x1)) + 1)) x2) = 1 then (43) else (46))) else (124)) else (if x2 ≤ ((24 + ((v 0) ((88 + (3 * x1)) + 2))) - 2) then (if x2 < 24 then (if (fX6_bit ((v 0) (88 + (3 * x1))) x2) = 1 then (35) else (if (fX6_bit ((v 0) ((88 + (3 * x1)) + 1)) x2) = 1 then (43) else (46))) else (124)) else ((-1))))
def fX6_told (v : SV) (x1 : Int32) (x2 : Int32) : SV × Int32 := if (fX6_in x1 0 11) = 0 then (let r_3 := fX6_fails (mkM (v 0) (v 1) (v 2) (v 3) (v 4) (v 5) (v 6) (v 7) (v 8 0) (v 8 1) 0 (v 8 3) (v 8 4) (v 8 5) (v 8 6) (v 8 7) (v 8 8)) 1
  (r_3.1, r_3.2)) else (if x2 < 0 then (let r_6 := fX6_fails (mkM (v 0) (v 1) (v 2) (v 3) (v 4) (v 5) (v 6) (v 7) (v 8 0) (v 8 1) 0 (v 8 3) (v 8 4) (v 8 5) (v 8 6) (v 8 7) (v 8 8)) 1
  (r_6.1, r_6.2)) else ((mkM (v 0) (v 1) (v 2) (v 3) (v 4) (v 5) (v 6) (v 7) (v 8 0) (v 8 1) 0 (v 8 3) (v 8 4) (v 8 5) (v 8 6) (v 8 7) (v 8 8), fX6_toldAt (mkM (v 0) (v 1) (v 2) (v 3) (v 4) (v 5) (v 6) (v 7) (v 8 0) (v 8 1) 0 (v 8 3) (v 8 4) (v 8 5) (v 8 6) (v 8 7) (v 8 8)) x1.toNatClampNeg x2)))
def tX6_waitOf_9 (v : SV) (x1 : Nat) (s : Int32 × Int32) : Int32 := let y2_9 := s.1; let y3_9 := s.2; y3_9
def bX6_waitOf_9 (v : SV) (x1 : Nat) (s : Int32 × Int32) : Bool × (Int32 × Int32) := let y2_9 := s.1; let y3_9 := s.2; if (y2_9 + (fX6_pulse v (1 <<< ((nI x1) &&& 31)) (nI x1))) ≤ ((v 0) 76) then ((false, (y2_9, y3_9))) else ((true, (fX6_cooled v y2_9, y3_9 + 1)))
def fX6_waitOf (v : SV) (x1 : Nat) : Int32 := tX6_waitOf_9 v x1 (lpB (mT + 1) (bX6_waitOf_9 v x1) ((v 0) x1, 0))
def fX6_ofDot (v : SV) (x1 : Nat) (x2 : Int32) : Int32 := if x2 = 0 then ((v 0) x1) else if x2 = 1 then (fX6_bit ((v 0) 24) (nI x1)) else if x2 = 2 then (fX6_bit ((v 0) 25) (nI x1)) else if x2 = 3 then ((v 0) (26 + x1)) else if x2 = 4 then ((v 0) (50 + x1)) else if x2 = 5 then (fX6_pulse v (1 <<< ((nI x1) &&& 31)) (nI x1)) else (fX6_waitOf v x1)
def fX6_dot (v : SV) (x1 : Int32) (x2 : Int32) : SV × Int32 := if (fX6_in x1 0 23) = 0 then (let r_8 := fX6_fails (mkM (v 0) (v 1) (v 2) (v 3) (v 4) (v 5) (v 6) (v 7) (v 8 0) (v 8 1) 0 (v 8 3) (v 8 4) (v 8 5) (v 8 6) (v 8 7) (v 8 8)) 1
  (r_8.1, r_8.2)) else (if (fX6_in x2 0 6) = 0 then (let r_3 := fX6_fails (mkM (v 0) (v 1) (v 2) (v 3) (v 4) (v 5) (v 6) (v 7) (v 8 0) (v 8 1) 0 (v 8 3) (v 8 4) (v 8 5) (v 8 6) (v 8 7) (v 8 8)) 2
  (r_3.1, r_3.2)) else ((mkM (v 0) (v 1) (v 2) (v 3) (v 4) (v 5) (v 6) (v 7) (v 8 0) (v 8 1) 0 (v 8 3) (v 8 4) (v 8 5) (v 8 6) (v 8 7) (v 8 8), fX6_ofDot (mkM (v 0) (v 1) (v 2) (v 3) (v 4) (v 5) (v 6) (v 7) (v 8 0) (v 8 1) 0 (v 8 3) (v 8 4) (v 8 5) (v 8 6) (v 8 7) (v 8 8)) x1.toNatClampNeg x2)))
def fX6_kept (v : SV) (x1 : Int32) (x2 : Int32) : SV × Int32 := if (fX6_in x1 0 11) = 0 then (let r_3 := fX6_fails (mkM (v 0) (v 1) (v 2) (v 3) (v 4) (v 5) (v 6) (v 7) (v 8 0) (v 8 1) 0 (v 8 3) (v 8 4) (v 8 5) (v 8 6) (v 8 7) (v 8 8)) 1
  (r_3.1, r_3.2)) else (if (fX6_in x2 0 2) = 0 then (let r_10 := fX6_fails (mkM (v 0) (v 1) (v 2) (v 3) (v 4) (v 5) (v 6) (v 7) (v 8 0) (v 8 1) 0 (v 8 3) (v 8 4) (v 8 5) (v 8 6) (v 8 7) (v 8 8)) 1
  (r_10.1, r_10.2)) else (if ((v 0) 87) ≤ x1 then ((mkM (v 0) (v 1) (v 2) (v 3) (v 4) (v 5) (v 6) (v 7) (v 8 0) (v 8 1) 0 (v 8 3) (v 8 4) (v 8 5) (v 8 6) (v 8 7) (v 8 8), (-1))) else ((mkM (v 0) (v 1) (v 2) (v 3) (v 4) (v 5) (v 6) (v 7) (v 8 0) (v 8 1) 0 (v 8 3) (v 8 4) (v 8 5) (v 8 6) (v 8 7) (v 8 8), (v 0) ((88 + (3 * x1.toNatClampNeg)) + x2.toNatClampNeg)))))
def fX6_number (v : SV) (x1 : Int32) : Int32 := if x1 = 0 then ((v 0) 82) else if x1 = 1 then ((v 0) 83) else if x1 = 2 then ((v 0) 84) else if x1 = 3 then ((v 0) 85) else if x1 = 4 then (fX6_sum v 26) else if x1 = 5 then (fX6_sum v 26) else if x1 = 6 then (fX6_sum v 50) else if x1 = 7 then (fX6_hottestNow v) else if x1 = 8 then ((v 0) 86) else if x1 = 9 then ((v 0) 81) else if x1 = 10 then ((v 0) 87) else if x1 = 11 then ((v 0) ((74 + x1) - 11).toNatClampNeg) else if x1 = 12 then ((v 0) ((74 + x1) - 11).toNatClampNeg) else if x1 = 13 then ((v 0) ((74 + x1) - 11).toNatClampNeg) else if x1 = 14 then ((v 0) ((74 + x1) - 11).toNatClampNeg) else if x1 = 15 then ((v 0) ((74 + x1) - 11).toNatClampNeg) else if x1 = 16 then ((v 0) ((74 + x1) - 11).toNatClampNeg) else if x1 = 17 then ((v 0) ((74 + x1) - 11).toNatClampNeg) else if x1 = 18 then (v 8 0) else ((v 0) ((74 + x1) - 11).toNatClampNeg)
def fX6_count (v : SV) (x1 : Int32) : SV × Int32 := if (fX6_in x1 0 18) = 0 then (let r_3 := fX6_fails (mkM (v 0) (v 1) (v 2) (v 3) (v 4) (v 5) (v 6) (v 7) (v 8 0) (v 8 1) 0 (v 8 3) (v 8 4) (v 8 5) (v 8 6) (v 8 7) (v 8 8)) 1
  (r_3.1, r_3.2)) else ((mkM (v 0) (v 1) (v 2) (v 3) (v 4) (v 5) (v 6) (v 7) (v 8 0) (v 8 1) 0 (v 8 3) (v 8 4) (v 8 5) (v 8 6) (v 8 7) (v 8 8), fX6_number (mkM (v 0) (v 1) (v 2) (v 3) (v 4) (v 5) (v 6) (v 7) (v 8 0) (v 8 1) 0 (v 8 3) (v 8 4) (v 8 5) (v 8 6) (v 8 7) (v 8 8)) x1))
def fX6_wouldBring (v : SV) (x1 : Int32) (x2 : Int32) : SV × Int32 := let r_2 := fX6_putAside v
  let r_4 := fX6_printLine r_2 x1
  if x2 = 0 then (let r_21 := fX6_putBack r_4.1
  (r_21, r_4.2)) else (if x2 = 1 then (let r_18 := fX6_putBack r_4.1
  (r_18, r_4.1 8 3)) else (if x2 = 2 then (let r_15 := fX6_putBack r_4.1
  (r_15, fX6_partsOf r_4.1 x1)) else (if x2 = 3 then (let r_12 := fX6_putBack r_4.1
  (r_12, (fX6_sum r_4.1 50) - (fX6_sum r_2 50))) else (if (r_4.1 8 5) ≤ (fX6_hottestNow r_2) then (let r_6 := fX6_putBack r_4.1
  (r_6, fX6_hottestNow r_2)) else (let r_9 := fX6_putBack r_4.1
  (r_9, r_4.1 8 5))))))
def fX6_ifPrinted (v : SV) (x1 : Int32) (x2 : Int32) : SV × Int32 := if (fX6_isLine x1) = 0 then (let r_3 := fX6_fails (mkM (v 0) (v 1) (v 2) (v 3) (v 4) (v 5) (v 6) (v 7) (v 8 0) (v 8 1) 0 (v 8 3) (v 8 4) (v 8 5) (v 8 6) (v 8 7) (v 8 8)) 1
  (r_3.1, r_3.2)) else (if (fX6_in x2 0 4) = 0 then (let r_6 := fX6_fails (mkM (v 0) (v 1) (v 2) (v 3) (v 4) (v 5) (v 6) (v 7) (v 8 0) (v 8 1) 0 (v 8 3) (v 8 4) (v 8 5) (v 8 6) (v 8 7) (v 8 8)) 1
  (r_6.1, r_6.2)) else (let r_9 := fX6_wouldBring (mkM (v 0) (v 1) (v 2) (v 3) (v 4) (v 5) (v 6) (v 7) (v 8 0) (v 8 1) 0 (v 8 3) (v 8 4) (v 8 5) (v 8 6) (v 8 7) (v 8 8)) x1 x2
  (r_9.1, r_9.2)))
def fX6_better (v : SV) (x1 : Int32) : SV × Int32 := let r_3 := fX6_wouldBring (mkM (upd (v 0) 79 0) (v 1) (v 2) (v 3) (v 4) (v 5) (v 6) (v 7) (v 8 0) (v 8 1) (v 8 2) (v 8 3) (v 8 4) (v 8 5) (v 8 6) (v 8 7) (v 8 8)) x1 0
  let r_6 := fX6_wouldBring (mkM (upd (r_3.1 0) 79 1) (r_3.1 1) (r_3.1 2) (r_3.1 3) (r_3.1 4) (r_3.1 5) (r_3.1 6) (r_3.1 7) (r_3.1 8 0) (r_3.1 8 1) (r_3.1 8 2) (r_3.1 8 3) (r_3.1 8 4) (r_3.1 8 5) (r_3.1 8 6) (r_3.1 8 7) (r_3.1 8 8)) x1 0
  let w_7 : Int32 := (v 0) 79; if r_3.2 ≤ r_6.2 then ((mkM (upd (r_6.1 0) 79 w_7) (r_6.1 1) (r_6.1 2) (r_6.1 3) (r_6.1 4) (r_6.1 5) (r_6.1 6) (r_6.1 7) (r_6.1 8 0) (r_6.1 8 1) (r_6.1 8 2) (r_6.1 8 3) (r_6.1 8 4) (r_6.1 8 5) (r_6.1 8 6) (r_6.1 8 7) (r_6.1 8 8), 0)) else ((mkM (upd (r_6.1 0) 79 w_7) (r_6.1 1) (r_6.1 2) (r_6.1 3) (r_6.1 4) (r_6.1 5) (r_6.1 6) (r_6.1 7) (r_6.1 8 0) (r_6.1 8 1) (r_6.1 8 2) (r_6.1 8 3) (r_6.1 8 4) (r_6.1 8 5) (r_6.1 8 6) (r_6.1 8 7) (r_6.1 8 8), 1))
def fX6_betterWay (v : SV) (x1 : Int32) : SV × Int32 := if (fX6_isLine x1) = 0 then (let r_3 := fX6_fails (mkM (v 0) (v 1) (v 2) (v 3) (v 4) (v 5) (v 6) (v 7) (v 8 0) (v 8 1) 0 (v 8 3) (v 8 4) (v 8 5) (v 8 6) (v 8 7) (v 8 8)) 1
  (r_3.1, r_3.2)) else (let r_6 := fX6_better (mkM (v 0) (v 1) (v 2) (v 3) (v 4) (v 5) (v 6) (v 7) (v 8 0) (v 8 1) 0 (v 8 3) (v 8 4) (v 8 5) (v 8 6) (v 8 7) (v 8 8)) x1
  (r_6.1, r_6.2))
def tX6_timeToCool_7 (v : SV) (x1 : Int32) (s : Int32 × Int32) : Int32 := let y2_7 := s.1; let y3_7 := s.2; y2_7
def bX6_timeToCool_7 (v : SV) (x1 : Int32) (s : Int32 × Int32) : Bool × (Int32 × Int32) := let y2_7 := s.1; let y3_7 := s.2; if y3_7 ≤ x1 then ((false, (y2_7, y3_7))) else ((true, (y2_7 + 1, fX6_cooled v y3_7)))
def fX6_timeToCool (v : SV) (x1 : Int32) : Int32 := tX6_timeToCool_7 v x1 (lpB (mT + 1) (bX6_timeToCool_7 v x1) (0, fX6_hottestNow v))
def fX6_coolIn (v : SV) (x1 : Int32) : SV × Int32 := if (fX6_in x1 0 900) = 0 then (let r_3 := fX6_fails (mkM (v 0) (v 1) (v 2) (v 3) (v 4) (v 5) (v 6) (v 7) (v 8 0) (v 8 1) 0 (v 8 3) (v 8 4) (v 8 5) (v 8 6) (v 8 7) (v 8 8)) 1
  (r_3.1, r_3.2)) else ((mkM (v 0) (v 1) (v 2) (v 3) (v 4) (v 5) (v 6) (v 7) (v 8 0) (v 8 1) 0 (v 8 3) (v 8 4) (v 8 5) (v 8 6) (v 8 7) (v 8 8), fX6_timeToCool (mkM (v 0) (v 1) (v 2) (v 3) (v 4) (v 5) (v 6) (v 7) (v 8 0) (v 8 1) 0 (v 8 3) (v 8 4) (v 8 5) (v 8 6) (v 8 7) (v 8 8)) x1))
def tX6_isDarkBy_18 (v : SV) (x1 : Nat) (x2 : Int32) (y3_18 : Int32) (s : Int32) : Int32 := let y4_18 := s; if (y4_18 + y3_18) < (fX6_darkHeat v) then (0) else (1)
def bX6_isDarkBy_18 (v : SV) (x1 : Nat) (x2 : Int32) (y3_18 : Int32) (s : Int32) : Bool × (Int32) := let y4_18 := s; if (y4_18 + y3_18) ≤ ((v 0) 76) then ((false, y4_18)) else ((true, fX6_cooled v y4_18))
def fX6_isDarkBy (v : SV) (x1 : Nat) (x2 : Int32) : Int32 := tX6_isDarkBy_18 v x1 x2 (fX6_pulseBy v (1 <<< ((nI x1) &&& 31)) (nI x1) x2) (lpB (mT + 1) (bX6_isDarkBy_18 v x1 x2 (fX6_pulseBy v (1 <<< ((nI x1) &&& 31)) (nI x1) x2)) ((v 0) x1))
def tX6_leastDark_6 (v : SV) (x1 : Nat) (s : Int32) : Int32 := let y2_6 := s; y2_6
def bX6_leastDark_6 (v : SV) (x1 : Nat) (d : Nat) (s : Int32) : Int32 := let y2_6 := s; if (fX6_isDarkBy v x1 (nI (d + 49))) = 0 then (y2_6) else (nI (d + 49))
def fX6_leastDark (v : SV) (x1 : Nat) : Int32 := tX6_leastDark_6 v x1 (lpD 251 (bX6_leastDark_6 v x1) (-1))
def fX6_darkFrom (v : SV) (x1 : Int32) : SV × Int32 := if (fX6_in x1 0 23) = 0 then (let r_3 := fX6_fails (mkM (v 0) (v 1) (v 2) (v 3) (v 4) (v 5) (v 6) (v 7) (v 8 0) (v 8 1) 0 (v 8 3) (v 8 4) (v 8 5) (v 8 6) (v 8 7) (v 8 8)) 1
  (r_3.1, r_3.2)) else ((mkM (v 0) (v 1) (v 2) (v 3) (v 4) (v 5) (v 6) (v 7) (v 8 0) (v 8 1) 0 (v 8 3) (v 8 4) (v 8 5) (v 8 6) (v 8 7) (v 8 8), fX6_leastDark (mkM (v 0) (v 1) (v 2) (v 3) (v 4) (v 5) (v 6) (v 7) (v 8 0) (v 8 1) 0 (v 8 3) (v 8 4) (v 8 5) (v 8 6) (v 8 7) (v 8 8)) x1.toNatClampNeg))
theorem lpB_meas {σ : Type} {g : σ → Bool × σ} (μ : σ → Int32) (stop : ∀ s, (μ s).toNatClampNeg = 0 → (g s).1 = false) (step : ∀ s, (g s).1 = false ∨ (μ (g s).2).toNatClampNeg ≤ (μ s).toNatClampNeg - 1) : ∀ (n : Nat) (s : σ), (μ s).toNatClampNeg ≤ n → lpT (n + 1) g s := by
  intro n
  induction n with
  | zero => intro s h; exact Or.inl (stop s (Nat.le_zero.mp h))
  | succ n ih =>
    intro s h
    rcases step s with e | e
    · exact Or.inl e
    · exact Or.inr (ih _ (by omega))
theorem lpB_mT {σ : Type} {g : σ → Bool × σ} (μ : σ → Int32) (stop : ∀ s, (μ s).toNatClampNeg = 0 → (g s).1 = false) (step : ∀ s, (g s).1 = false ∨ (μ (g s).2).toNatClampNeg ≤ (μ s).toNatClampNeg - 1) (s : σ) : lpT (mT + 1) g s := lpB_meas μ stop step mT s (Nat.le_of_lt (cl_lt _))
theorem cl_0 {x : Int32} (h : x.toNatClampNeg = 0) : bd x (-2147483648) 0 := by
  refine ⟨(bd_i _).1, ?_⟩
  have : x.toInt.toNat = 0 := h
  omega
theorem wait_stop {v : SV} (hI : SI (v 0)) {p h : Int32} (hp : bd p 20 325) (hh : h.toNatClampNeg = 0) : h + p ≤ (v 0) 76 := by
  have s := bd_add (cl_0 hh) hp (by omega) (by omega)
  obtain ⟨-, -, ⟨c, h1, h2, h3⟩, -⟩ := hI
  rw [h3, Int32.le_iff_toInt_le, nI_toInt (by omega)]
  have := s.2
  omega
theorem pulseBy_bd {v : SV} (x1 x2 : Int32) {x3 : Int32} (hc : bd x3 50 300) : bd (fX6_pulseBy v x1 x2 x3) 20 325 := by
  have k : ∀ (b : Int32) (n : Int32) (z : Int), 0 ≤ z → bd n z z → (b = 0 ∨ b = 1) → bd (n * b) 0 z := by
    intro b n z hz hn hb
    rcases hb with rfl | rfl
    · rw [Int32.mul_zero]; exact ⟨by decide, by show (0 : Int) ≤ z; omega⟩
    · rw [Int32.mul_one]; exact ⟨by have := hn.1; omega, hn.2⟩
  have J : ∀ z : Int32, bd z (-15) 25 → bd (tX6_pulseBy_J32 v x1 x2 x3 z) 20 325 := by
    intro z hz
    have b1 := k _ 20 20 (by omega) ⟨by decide, by decide⟩ (bit_01 ((v 0) 24) x2)
    have b2 := k _ 10 10 (by omega) ⟨by decide, by decide⟩ (bit_01 ((v 0) 25) x2)
    have b3 : bd (5 * ((fX6_bit x1 (x2 - 1)) + (fX6_bit x1 (x2 + 1)))) 0 10 := by
      rcases bit_01 x1 (x2 - 1) with e | e <;> rcases bit_01 x1 (x2 + 1) with e2 | e2 <;> rw [e, e2] <;> exact ⟨by decide, by decide⟩
    have s := bd_sub (bd_sub (bd_sub (bd_add hc hz (by omega) (by omega)) b1 (by omega) (by omega)) b2 (by omega) (by omega)) b3 (by omega) (by omega)
    unfold tX6_pulseBy_J32
    split
    · rename_i q
      refine ⟨?_, by have := s.2; omega⟩
      have := Int32.le_iff_toInt_le.mp q
      exact this
    · exact ⟨by decide, by decide⟩
  unfold fX6_pulseBy
  split
  · exact J _ ⟨by decide, by decide⟩
  · split
    · exact J _ ⟨by decide, by decide⟩
    · exact J _ ⟨by decide, by decide⟩
theorem T_waitOf (v : SV) (x1 : Nat) (hI : SI (v 0)) (s : Int32 × Int32) : lpT (mT + 1) (bX6_waitOf_9 v x1) s := by
  refine lpB_mT (fun s => s.1) (fun s h => ?_) (fun s => ?_) s
  · obtain ⟨a, b⟩ := s
    unfold bX6_waitOf_9
    dsimp only at h ⊢
    rw [if_pos (wait_stop hI (pulse_bd hI _ _) h)]
  · obtain ⟨a, b⟩ := s
    unfold bX6_waitOf_9
    dsimp only
    split
    · exact Or.inl rfl
    · exact Or.inr (cooled_bd hI a)
theorem T_timeToCool (v : SV) (x1 : Int32) (hI : SI (v 0)) (hx : ¬ x1 < 0) (s : Int32 × Int32) : lpT (mT + 1) (bX6_timeToCool_7 v x1) s := by
  refine lpB_mT (fun s => s.2) (fun s h => ?_) (fun s => ?_) s
  · obtain ⟨a, b⟩ := s
    unfold bX6_timeToCool_7
    dsimp only at h ⊢
    rw [if_pos]
    have h1 := (cl_0 h).2
    have h2 : ¬ x1.toInt < 0 := fun z => hx (Int32.lt_iff_toInt_lt.mpr z)
    rw [Int32.le_iff_toInt_le]
    omega
  · obtain ⟨a, b⟩ := s
    unfold bX6_timeToCool_7
    dsimp only
    split
    · exact Or.inl rfl
    · exact Or.inr (cooled_bd hI b)
theorem T_isDarkBy (v : SV) (x1 : Nat) (x2 : Int32) (hI : SI (v 0)) (hv : bd x2 50 300) (y1 y2 : Int32) (s : Int32) : lpT (mT + 1) (bX6_isDarkBy_18 v x1 x2 (fX6_pulseBy v y1 y2 x2)) s := by
  refine lpB_mT (fun s => s) (fun s h => ?_) (fun s => ?_) s
  · unfold bX6_isDarkBy_18
    dsimp only at h ⊢
    rw [if_pos (wait_stop hI (pulseBy_bd _ _ hv) h)]
  · unfold bX6_isDarkBy_18
    dsimp only
    split
    · exact Or.inl rfl
    · exact Or.inr (cooled_bd hI s)
theorem putAside_eq (v : SV) : (fX6_putAside v) 0 = v 0 ∧ FRM ((fX6_putAside v)) (mkM (v 0) (v 1) (v 2) ((fX6_putAside v) 3) (v 4) (v 5) (v 6) (v 7) (v 8 0) (v 8 1) (v 8 2) (v 8 3) (v 8 4) (v 8 5) (v 8 6) (v 8 7) (v 8 8)) ∧ ∀ k, k < 124 → (fX6_putAside v) 3 k = v 0 k := by
  have e0 : fX6_putAside v = lpF 124 0 (bX6_putAside_2 v) v := by delta fX6_putAside tX6_putAside_2; rfl
  rw [e0]
  have h := lpF_ind (fun d (s : SV) => s 0 = v 0 ∧ FRM s (mkM (v 0) (v 1) (v 2) (s 3) (v 4) (v 5) (v 6) (v 7) (v 8 0) (v 8 1) (v 8 2) (v 8 3) (v 8 4) (v 8 5) (v 8 6) (v 8 7) (v 8 8)) ∧ ∀ k, k < d → s 3 k = v 0 k) (b := bX6_putAside_2 v) 124 0 v (fun d s _ _ hs => ?_) ⟨rfl, FRM.rf _, fun k h => absurd h (Nat.not_lt_zero _)⟩
  · exact ⟨h.1, h.2.1, fun k hk => h.2.2 k (by omega)⟩
  · obtain ⟨h1, ⟨a1, a2, a3, a4, a5, a6, a7, a8, a9, b1, b2, b3, b4⟩, h3⟩ := hs
    refine ⟨h1, ⟨a1, a2, rfl, a4, a5, a6, a7, a8, a9, b1, b2, b3, b4⟩, fun k hk => ?_⟩
    show upd (s 3) d ((s 0) d) k = v 0 k
    by_cases q : k = d
    · rw [q, pk_us, h1]
    · rw [pk_un q]; exact h3 k (by omega)
theorem putBack_row (v : SV) : (∀ k, k < 124 → (fX6_putBack v) 0 k = v 3 k) ∧ FRM v (fX6_putBack v) := by
  have e0 : fX6_putBack v = lpF 124 0 (bX6_putBack_2 v) v := by delta fX6_putBack tX6_putBack_2; rfl
  rw [e0]
  have h := lpF_ind (fun d (s : SV) => FRM v s ∧ ∀ k, k < d → s 0 k = v 3 k) (b := bX6_putBack_2 v) 124 0 v (fun d s _ _ hs => ?_) ⟨FRM.rf _, fun k h => absurd h (Nat.not_lt_zero _)⟩
  · exact ⟨fun k hk => h.2 k (by omega), h.1⟩
  · refine ⟨hs.1.tr (FRM.mk s _ _ _ _), fun k hk => ?_⟩
    show upd (s 0) d ((s 3) d) k = v 3 k
    by_cases q : k = d
    · rw [q, pk_us, hs.1.2.2.1]
    · rw [pk_un q]; exact hs.2 k (by omega)
theorem WB_row (v : SV) (x1 x2 : Int32) : ∀ k, k < 124 → ((fX6_wouldBring v x1 x2).1 0) k = v 0 k := by
  intro k hk
  have h1 := (putAside_eq v).2.2 k hk
  have h2 := (F_printLine (fX6_putAside v) x1).2.2.1
  have h3 := (putBack_row (fX6_printLine (fX6_putAside v) x1).1).1 k hk
  have e : (fX6_wouldBring v x1 x2).1 = fX6_putBack (fX6_printLine (fX6_putAside v) x1).1 := by
    unfold fX6_wouldBring
    dsimp only
    split
    · rfl
    · split
      · rfl
      · split
        · rfl
        · split
          · rfl
          · split <;> rfl
  rw [e, h3, h2, h1]
theorem SI_row {v w : SV} (hI : SI (v 0)) (h : ∀ k, k < 124 → w 0 k = v 0 k) : SI (w 0) := SI_congr (fun k _ h2 => h k (by omega)) hI
theorem SI_way {r : Nat → Int32} {x : Int32} (hI : SI r) (h : ∃ c, c ≤ 1 ∧ x = nI c) : SI (upd r 79 x) := by
  obtain ⟨h1, h2, h3, h4, h5, h6, h7, h8⟩ := hI
  exact ⟨h1, h2, h3, h4, h5, h, h7, h8⟩
theorem SI_aside {v : SV} (hI : SI (v 0)) : SI ((fX6_putAside v) 0) := by rw [(putAside_eq v).1]; exact hI
theorem num_in {x : Int32} (h : le_n x 18) : vp_in ((74 + x) - 11) 124 := by
  have h1 := lq h
  have h2 := h.2
  rw [h1]
  generalize x.toNatClampNeg = n at h2
  rw [show (74 : Int32) + nI n = nI (74 + n) from nI_add 74 n, show nI (74 + n) - 11 = nI (74 + n - 11) from pk_sub (b := 11) (by omega)]
  exact vp_in_nI (by omega) (by omega)
/-- the rounds that a reading loop is given: more than the buffer has -/
def mR : Nat := 60
theorem dX6_toldAt_0 : decode cX6_toldAt 0 = .ok (.bipush 88, 2) := by decide +kernel
theorem dX6_toldAt_2 : decode cX6_toldAt 2 = .ok (.iconst 3, 1) := by decide +kernel
theorem dX6_toldAt_3 : decode cX6_toldAt 3 = .ok (.iload_n 1, 1) := by decide +kernel
theorem dX6_toldAt_4 : decode cX6_toldAt 4 = .ok (.imul, 1) := by decide +kernel
theorem dX6_toldAt_5 : decode cX6_toldAt 5 = .ok (.iadd, 1) := by decide +kernel
theorem dX6_toldAt_6 : decode cX6_toldAt 6 = .ok (.istore_n 3, 1) := by decide +kernel
theorem dX6_toldAt_7 : decode cX6_toldAt 7 = .ok (.iload_n 1, 1) := by decide +kernel
theorem dX6_toldAt_8 : decode cX6_toldAt 8 = .ok (.aload_n 0, 1) := by decide +kernel
theorem dX6_toldAt_9 : decode cX6_toldAt 9 = .ok (.getfield 7, 3) := by decide +kernel
theorem dX6_toldAt_12 : decode cX6_toldAt 12 = .ok (.bipush 87, 2) := by decide +kernel
theorem dX6_toldAt_14 : decode cX6_toldAt 14 = .ok (.iaload, 1) := by decide +kernel
theorem dX6_toldAt_15 : decode cX6_toldAt 15 = .ok (.if_icmp .ge 26, 3) := by decide +kernel
theorem dX6_toldAt_18 : decode cX6_toldAt 18 = .ok (.iload_n 2, 1) := by decide +kernel
theorem dX6_toldAt_19 : decode cX6_toldAt 19 = .ok (.bipush 24, 2) := by decide +kernel
theorem dX6_toldAt_21 : decode cX6_toldAt 21 = .ok (.if_icmp .lt 22, 3) := by decide +kernel
theorem dX6_toldAt_24 : decode cX6_toldAt 24 = .ok (.iload_n 2, 1) := by decide +kernel
theorem dX6_toldAt_25 : decode cX6_toldAt 25 = .ok (.bipush 24, 2) := by decide +kernel
theorem dX6_toldAt_27 : decode cX6_toldAt 27 = .ok (.aload_n 0, 1) := by decide +kernel
theorem dX6_toldAt_28 : decode cX6_toldAt 28 = .ok (.getfield 7, 3) := by decide +kernel
theorem dX6_toldAt_31 : decode cX6_toldAt 31 = .ok (.iload_n 3, 1) := by decide +kernel
theorem dX6_toldAt_32 : decode cX6_toldAt 32 = .ok (.iconst 2, 1) := by decide +kernel
theorem dX6_toldAt_33 : decode cX6_toldAt 33 = .ok (.iadd, 1) := by decide +kernel
theorem dX6_toldAt_34 : decode cX6_toldAt 34 = .ok (.iaload, 1) := by decide +kernel
theorem dX6_toldAt_35 : decode cX6_toldAt 35 = .ok (.iadd, 1) := by decide +kernel
theorem dX6_toldAt_36 : decode cX6_toldAt 36 = .ok (.iconst 2, 1) := by decide +kernel
theorem dX6_toldAt_37 : decode cX6_toldAt 37 = .ok (.isub, 1) := by decide +kernel
theorem dX6_toldAt_38 : decode cX6_toldAt 38 = .ok (.if_icmp .le 5, 3) := by decide +kernel
theorem dX6_toldAt_41 : decode cX6_toldAt 41 = .ok (.iconst (-1), 1) := by decide +kernel
theorem dX6_toldAt_42 : decode cX6_toldAt 42 = .ok (.ireturn, 1) := by decide +kernel
theorem dX6_toldAt_43 : decode cX6_toldAt 43 = .ok (.iload_n 2, 1) := by decide +kernel
theorem dX6_toldAt_44 : decode cX6_toldAt 44 = .ok (.bipush 24, 2) := by decide +kernel
theorem dX6_toldAt_46 : decode cX6_toldAt 46 = .ok (.if_icmp .lt 8, 3) := by decide +kernel
theorem dX6_toldAt_49 : decode cX6_toldAt 49 = .ok (.bipush 124, 2) := by decide +kernel
theorem dX6_toldAt_51 : decode cX6_toldAt 51 = .ok (.goto 45, 3) := by decide +kernel
theorem dX6_toldAt_54 : decode cX6_toldAt 54 = .ok (.aload_n 0, 1) := by decide +kernel
theorem dX6_toldAt_55 : decode cX6_toldAt 55 = .ok (.getfield 7, 3) := by decide +kernel
theorem dX6_toldAt_58 : decode cX6_toldAt 58 = .ok (.iload_n 3, 1) := by decide +kernel
theorem dX6_toldAt_59 : decode cX6_toldAt 59 = .ok (.iaload, 1) := by decide +kernel
theorem dX6_toldAt_60 : decode cX6_toldAt 60 = .ok (.iload_n 2, 1) := by decide +kernel
theorem dX6_toldAt_61 : decode cX6_toldAt 61 = .ok (.invokestatic 60, 3) := by decide +kernel
theorem dX6_toldAt_64 : decode cX6_toldAt 64 = .ok (.iconst 1, 1) := by decide +kernel
theorem dX6_toldAt_65 : decode cX6_toldAt 65 = .ok (.if_icmp .ne 8, 3) := by decide +kernel
theorem dX6_toldAt_68 : decode cX6_toldAt 68 = .ok (.bipush 35, 2) := by decide +kernel
theorem dX6_toldAt_70 : decode cX6_toldAt 70 = .ok (.goto 26, 3) := by decide +kernel
theorem dX6_toldAt_73 : decode cX6_toldAt 73 = .ok (.aload_n 0, 1) := by decide +kernel
theorem dX6_toldAt_74 : decode cX6_toldAt 74 = .ok (.getfield 7, 3) := by decide +kernel
theorem dX6_toldAt_77 : decode cX6_toldAt 77 = .ok (.iload_n 3, 1) := by decide +kernel
theorem dX6_toldAt_78 : decode cX6_toldAt 78 = .ok (.iconst 1, 1) := by decide +kernel
theorem dX6_toldAt_79 : decode cX6_toldAt 79 = .ok (.iadd, 1) := by decide +kernel
theorem dX6_toldAt_80 : decode cX6_toldAt 80 = .ok (.iaload, 1) := by decide +kernel
theorem dX6_toldAt_81 : decode cX6_toldAt 81 = .ok (.iload_n 2, 1) := by decide +kernel
theorem dX6_toldAt_82 : decode cX6_toldAt 82 = .ok (.invokestatic 60, 3) := by decide +kernel
theorem dX6_toldAt_85 : decode cX6_toldAt 85 = .ok (.iconst 1, 1) := by decide +kernel
theorem dX6_toldAt_86 : decode cX6_toldAt 86 = .ok (.if_icmp .ne 8, 3) := by decide +kernel
theorem dX6_toldAt_89 : decode cX6_toldAt 89 = .ok (.bipush 43, 2) := by decide +kernel
theorem dX6_toldAt_91 : decode cX6_toldAt 91 = .ok (.goto 5, 3) := by decide +kernel
theorem dX6_toldAt_94 : decode cX6_toldAt 94 = .ok (.bipush 46, 2) := by decide +kernel
theorem dX6_toldAt_96 : decode cX6_toldAt 96 = .ok (.ireturn, 1) := by decide +kernel
set_option maxHeartbeats 1000000 in
set_option maxRecDepth 100000 in
theorem c_X6_toldAt (l : Launch) (G : GT) (q : Nat → Nat) (v : SV) (hs : Int64) (x1 : Nat) (x2 : Int32) (hx : x1 < 12) : Met l yX6_toldAt (Cond.code yX6_toldAt cX6_toldAt 4 (some .int) :: bigW) ({ frames := 2, cells := 0, slots := 0, locals := 43 }) (BP G [.ref (q 0), .int (nI x1), .int x2] (fun U H => PW G (mdW G q v hs) H)) (QP (.int (fX6_toldAt v x1 x2))) 0 0 (fun _ => False) := by
  refine met_of (by decide) (Nat.le_of_ble_eq_true rfl) ?_
  intro p e s m below meth c ls hC hKN hB0 hl
  have hP := hB0
  have hl : lv_has ls 4 [(0, .ref (q 0)), (1, .int (nI x1)), (2, .int x2)] := hl
  have hg : fX6_toldAt v x1 x2 = fX6_toldAt v x1 x2 := rfl
  refine lv_bipush (v := 88) hC.1 hC.2.1 dX6_toldAt_0 (by decide +kernel) ?_
  refine lv_iconst (v := 3) hC.1 hC.2.1 dX6_toldAt_2 (by decide) ?_
  refine lv_iload_n hC.1 hC.2.1 dX6_toldAt_3 rfl (lv_at hl 1 rfl) ?_
  refine lv_imul hC.1 hC.2.1 dX6_toldAt_4 ?_
  refine lv_iadd hC.1 hC.2.1 dX6_toldAt_5 ?_
  refine lv_istore_n (lv' := [(3, .int (88 + (3 * (nI x1)))), (0, .ref (q 0)), (1, .int (nI x1)), (2, .int x2)]) hC.1 hC.2.1 dX6_toldAt_6 rfl hl (by decide) rfl (fun ls hl => ?_)
  refine lv_iload_n hC.1 hC.2.1 dX6_toldAt_7 rfl (lv_at hl 2 rfl) ?_
  refine lv_aload_n hC.1 hC.2.1 dX6_toldAt_8 rfl (lv_at hl 1 rfl) ?_
  refine gf (v := .ref (q 1)) hC fwX6 hKN hP 0 rfl rfl 0 (by decide) rfl wd_887 rfl dX6_toldAt_9 ?_
  refine lv_bipush (v := 87) hC.1 hC.2.1 dX6_toldAt_12 (by decide +kernel) ?_
  refine iald_k hC hKN hP 1 rfl (n := 124) (f := (v 0)) 87 (rfl) (by omega) (by decide) dX6_toldAt_14 ?_
  refine lv_icmp_ge (tgt := 41) hC.1 hC.2.1 dX6_toldAt_15 (by decide) (fun k15 => ?_) (fun k15 => ?_)
  · refine lv_iconst (v := (-1)) hC.1 hC.2.1 dX6_toldAt_41 (by decide) ?_
    have e_1 : fX6_toldAt v x1 x2 = (-1) := by delta fX6_toldAt; exact Eq.trans (if_pos k15) rfl
    have hg : fX6_toldAt v x1 x2 = (-1) := by have e2 := congrArg (fun z => z) e_1; exact hg.trans e2
    exact eP_i hC (congrArg Value.int hg) dX6_toldAt_42
  · refine lv_iload_n hC.1 hC.2.1 dX6_toldAt_18 rfl (lv_at hl 3 rfl) ?_
    refine lv_bipush (v := 24) hC.1 hC.2.1 dX6_toldAt_19 (by decide +kernel) ?_
    refine lv_icmp_lt (tgt := 43) hC.1 hC.2.1 dX6_toldAt_21 (by decide) (fun k21 => ?_) (fun k21 => ?_)
    · refine lv_iload_n hC.1 hC.2.1 dX6_toldAt_43 rfl (lv_at hl 3 rfl) ?_
      refine lv_bipush (v := 24) hC.1 hC.2.1 dX6_toldAt_44 (by decide +kernel) ?_
      refine lv_icmp_lt (tgt := 54) hC.1 hC.2.1 dX6_toldAt_46 (by decide) (fun k46 => ?_) (fun k46 => ?_)
      · refine lv_aload_n hC.1 hC.2.1 dX6_toldAt_54 rfl (lv_at hl 1 rfl) ?_
        refine gf (v := .ref (q 1)) hC fwX6 hKN hP 0 rfl rfl 0 (by decide) rfl wd_887 rfl dX6_toldAt_55 ?_
        refine lv_iload_n hC.1 hC.2.1 dX6_toldAt_58 rfl (lv_at hl 0 rfl) ?_
        refine iald_k hC hKN hP 1 rfl (n := 124) (f := (v 0)) (88 + (3 * x1)) (nE_add (rfl) (nE_mul (rfl) (rfl))) (by omega) (by decide) dX6_toldAt_59 ?_
        refine lv_iload_n hC.1 hC.2.1 dX6_toldAt_60 rfl (lv_at hl 3 rfl) ?_
        refine runP (rS (B := fun U H => True) (As := [.int ((v 0) (88 + (3 * x1))), .int x2]) (rest := []) hC mwX6_bit (c_X6_bit l G ((v 0) (88 + (3 * x1))) x2) wd_997 wd_996 ⟨rfl, rfl⟩ ⟨Nat.le_of_ble_eq_true rfl, Nat.le_of_ble_eq_true rfl⟩ (fun _ _ _ _ h => h) hKN trivial rfl hl.1 rfl (Nat.le_of_ble_eq_true rfl) dX6_toldAt_61 ⟨Nat.zero_le _, Nat.zero_le _⟩) ?_
        refine lv_iconst (v := 1) hC.1 hC.2.1 dX6_toldAt_64 (by decide) ?_
        refine lv_icmp_ne (tgt := 73) hC.1 hC.2.1 dX6_toldAt_65 (by decide) (fun k65 => ?_) (fun k65 => ?_)
        · refine lv_aload_n hC.1 hC.2.1 dX6_toldAt_73 rfl (lv_at hl 1 rfl) ?_
          refine gf (v := .ref (q 1)) hC fwX6 hKN hP 0 rfl rfl 0 (by decide) rfl wd_887 rfl dX6_toldAt_74 ?_
          refine lv_iload_n hC.1 hC.2.1 dX6_toldAt_77 rfl (lv_at hl 0 rfl) ?_
          refine lv_iconst (v := 1) hC.1 hC.2.1 dX6_toldAt_78 (by decide) ?_
          refine lv_iadd hC.1 hC.2.1 dX6_toldAt_79 ?_
          refine iald_k hC hKN hP 1 rfl (n := 124) (f := (v 0)) ((88 + (3 * x1)) + 1) (nE_add (nE_add (rfl) (nE_mul (rfl) (rfl))) (rfl)) (by omega) (by decide) dX6_toldAt_80 ?_
          refine lv_iload_n hC.1 hC.2.1 dX6_toldAt_81 rfl (lv_at hl 3 rfl) ?_
          refine runP (rS (B := fun U H => True) (As := [.int ((v 0) ((88 + (3 * x1)) + 1)), .int x2]) (rest := []) hC mwX6_bit (c_X6_bit l G ((v 0) ((88 + (3 * x1)) + 1)) x2) wd_997 wd_996 ⟨rfl, rfl⟩ ⟨Nat.le_of_ble_eq_true rfl, Nat.le_of_ble_eq_true rfl⟩ (fun _ _ _ _ h => h) hKN trivial rfl hl.1 rfl (Nat.le_of_ble_eq_true rfl) dX6_toldAt_82 ⟨Nat.zero_le _, Nat.zero_le _⟩) ?_
          refine lv_iconst (v := 1) hC.1 hC.2.1 dX6_toldAt_85 (by decide) ?_
          refine lv_icmp_ne (tgt := 94) hC.1 hC.2.1 dX6_toldAt_86 (by decide) (fun k86 => ?_) (fun k86 => ?_)
          · refine lv_bipush (v := 46) hC.1 hC.2.1 dX6_toldAt_94 (by decide +kernel) ?_
            have e_2 : fX6_toldAt v x1 x2 = 46 := by delta fX6_toldAt; exact Eq.trans (if_neg k15) (Eq.trans (if_pos k21) (Eq.trans (if_pos k46) (Eq.trans (if_neg k65) (Eq.trans (if_neg k86) rfl))))
            have hg : fX6_toldAt v x1 x2 = 46 := by have e2 := congrArg (fun z => z) e_2; exact hg.trans e2
            exact eP_i hC (congrArg Value.int hg) dX6_toldAt_96
          · refine lv_bipush (v := 43) hC.1 hC.2.1 dX6_toldAt_89 (by decide +kernel) ?_
            refine lv_goto (tgt := 96) hC.1 hC.2.1 dX6_toldAt_91 (by decide) ?_
            have e_3 : fX6_toldAt v x1 x2 = 43 := by delta fX6_toldAt; exact Eq.trans (if_neg k15) (Eq.trans (if_pos k21) (Eq.trans (if_pos k46) (Eq.trans (if_neg k65) (Eq.trans (if_pos k86) rfl))))
            have hg : fX6_toldAt v x1 x2 = 43 := by have e2 := congrArg (fun z => z) e_3; exact hg.trans e2
            exact eP_i hC (congrArg Value.int hg) dX6_toldAt_96
        · refine lv_bipush (v := 35) hC.1 hC.2.1 dX6_toldAt_68 (by decide +kernel) ?_
          refine lv_goto (tgt := 96) hC.1 hC.2.1 dX6_toldAt_70 (by decide) ?_
          have e_4 : fX6_toldAt v x1 x2 = 35 := by delta fX6_toldAt; exact Eq.trans (if_neg k15) (Eq.trans (if_pos k21) (Eq.trans (if_pos k46) (Eq.trans (if_pos k65) rfl)))
          have hg : fX6_toldAt v x1 x2 = 35 := by have e2 := congrArg (fun z => z) e_4; exact hg.trans e2
          exact eP_i hC (congrArg Value.int hg) dX6_toldAt_96
      · refine lv_bipush (v := 124) hC.1 hC.2.1 dX6_toldAt_49 (by decide +kernel) ?_
        refine lv_goto (tgt := 96) hC.1 hC.2.1 dX6_toldAt_51 (by decide) ?_
        have e_5 : fX6_toldAt v x1 x2 = 124 := by delta fX6_toldAt; exact Eq.trans (if_neg k15) (Eq.trans (if_pos k21) (Eq.trans (if_neg k46) rfl))
        have hg : fX6_toldAt v x1 x2 = 124 := by have e2 := congrArg (fun z => z) e_5; exact hg.trans e2
        exact eP_i hC (congrArg Value.int hg) dX6_toldAt_96
    · refine lv_iload_n hC.1 hC.2.1 dX6_toldAt_24 rfl (lv_at hl 3 rfl) ?_
      refine lv_bipush (v := 24) hC.1 hC.2.1 dX6_toldAt_25 (by decide +kernel) ?_
      refine lv_aload_n hC.1 hC.2.1 dX6_toldAt_27 rfl (lv_at hl 1 rfl) ?_
      refine gf (v := .ref (q 1)) hC fwX6 hKN hP 0 rfl rfl 0 (by decide) rfl wd_887 rfl dX6_toldAt_28 ?_
      refine lv_iload_n hC.1 hC.2.1 dX6_toldAt_31 rfl (lv_at hl 0 rfl) ?_
      refine lv_iconst (v := 2) hC.1 hC.2.1 dX6_toldAt_32 (by decide) ?_
      refine lv_iadd hC.1 hC.2.1 dX6_toldAt_33 ?_
      refine iald_k hC hKN hP 1 rfl (n := 124) (f := (v 0)) ((88 + (3 * x1)) + 2) (nE_add (nE_add (rfl) (nE_mul (rfl) (rfl))) (rfl)) (by omega) (by decide) dX6_toldAt_34 ?_
      refine lv_iadd hC.1 hC.2.1 dX6_toldAt_35 ?_
      refine lv_iconst (v := 2) hC.1 hC.2.1 dX6_toldAt_36 (by decide) ?_
      refine lv_isub hC.1 hC.2.1 dX6_toldAt_37 ?_
      refine lv_icmp_le (tgt := 43) hC.1 hC.2.1 dX6_toldAt_38 (by decide) (fun k38 => ?_) (fun k38 => ?_)
      · refine lv_iload_n hC.1 hC.2.1 dX6_toldAt_43 rfl (lv_at hl 3 rfl) ?_
        refine lv_bipush (v := 24) hC.1 hC.2.1 dX6_toldAt_44 (by decide +kernel) ?_
        refine lv_icmp_lt (tgt := 54) hC.1 hC.2.1 dX6_toldAt_46 (by decide) (fun k46 => ?_) (fun k46 => ?_)
        · refine lv_aload_n hC.1 hC.2.1 dX6_toldAt_54 rfl (lv_at hl 1 rfl) ?_
          refine gf (v := .ref (q 1)) hC fwX6 hKN hP 0 rfl rfl 0 (by decide) rfl wd_887 rfl dX6_toldAt_55 ?_
          refine lv_iload_n hC.1 hC.2.1 dX6_toldAt_58 rfl (lv_at hl 0 rfl) ?_
          refine iald_k hC hKN hP 1 rfl (n := 124) (f := (v 0)) (88 + (3 * x1)) (nE_add (rfl) (nE_mul (rfl) (rfl))) (by omega) (by decide) dX6_toldAt_59 ?_
          refine lv_iload_n hC.1 hC.2.1 dX6_toldAt_60 rfl (lv_at hl 3 rfl) ?_
          refine runP (rS (B := fun U H => True) (As := [.int ((v 0) (88 + (3 * x1))), .int x2]) (rest := []) hC mwX6_bit (c_X6_bit l G ((v 0) (88 + (3 * x1))) x2) wd_997 wd_996 ⟨rfl, rfl⟩ ⟨Nat.le_of_ble_eq_true rfl, Nat.le_of_ble_eq_true rfl⟩ (fun _ _ _ _ h => h) hKN trivial rfl hl.1 rfl (Nat.le_of_ble_eq_true rfl) dX6_toldAt_61 ⟨Nat.zero_le _, Nat.zero_le _⟩) ?_
          refine lv_iconst (v := 1) hC.1 hC.2.1 dX6_toldAt_64 (by decide) ?_
          refine lv_icmp_ne (tgt := 73) hC.1 hC.2.1 dX6_toldAt_65 (by decide) (fun k65 => ?_) (fun k65 => ?_)
          · refine lv_aload_n hC.1 hC.2.1 dX6_toldAt_73 rfl (lv_at hl 1 rfl) ?_
            refine gf (v := .ref (q 1)) hC fwX6 hKN hP 0 rfl rfl 0 (by decide) rfl wd_887 rfl dX6_toldAt_74 ?_
            refine lv_iload_n hC.1 hC.2.1 dX6_toldAt_77 rfl (lv_at hl 0 rfl) ?_
            refine lv_iconst (v := 1) hC.1 hC.2.1 dX6_toldAt_78 (by decide) ?_
            refine lv_iadd hC.1 hC.2.1 dX6_toldAt_79 ?_
            refine iald_k hC hKN hP 1 rfl (n := 124) (f := (v 0)) ((88 + (3 * x1)) + 1) (nE_add (nE_add (rfl) (nE_mul (rfl) (rfl))) (rfl)) (by omega) (by decide) dX6_toldAt_80 ?_
            refine lv_iload_n hC.1 hC.2.1 dX6_toldAt_81 rfl (lv_at hl 3 rfl) ?_
            refine runP (rS (B := fun U H => True) (As := [.int ((v 0) ((88 + (3 * x1)) + 1)), .int x2]) (rest := []) hC mwX6_bit (c_X6_bit l G ((v 0) ((88 + (3 * x1)) + 1)) x2) wd_997 wd_996 ⟨rfl, rfl⟩ ⟨Nat.le_of_ble_eq_true rfl, Nat.le_of_ble_eq_true rfl⟩ (fun _ _ _ _ h => h) hKN trivial rfl hl.1 rfl (Nat.le_of_ble_eq_true rfl) dX6_toldAt_82 ⟨Nat.zero_le _, Nat.zero_le _⟩) ?_
            refine lv_iconst (v := 1) hC.1 hC.2.1 dX6_toldAt_85 (by decide) ?_
            refine lv_icmp_ne (tgt := 94) hC.1 hC.2.1 dX6_toldAt_86 (by decide) (fun k86 => ?_) (fun k86 => ?_)
            · refine lv_bipush (v := 46) hC.1 hC.2.1 dX6_toldAt_94 (by decide +kernel) ?_
              have e_6 : fX6_toldAt v x1 x2 = 46 := by delta fX6_toldAt; exact Eq.trans (if_neg k15) (Eq.trans (if_neg k21) (Eq.trans (if_pos k38) (Eq.trans (if_pos k46) (Eq.trans (if_neg k65) (Eq.trans (if_neg k86) rfl)))))
              have hg : fX6_toldAt v x1 x2 = 46 := by have e2 := congrArg (fun z => z) e_6; exact hg.trans e2
              exact eP_i hC (congrArg Value.int hg) dX6_toldAt_96
            · refine lv_bipush (v := 43) hC.1 hC.2.1 dX6_toldAt_89 (by decide +kernel) ?_
              refine lv_goto (tgt := 96) hC.1 hC.2.1 dX6_toldAt_91 (by decide) ?_
              have e_7 : fX6_toldAt v x1 x2 = 43 := by delta fX6_toldAt; exact Eq.trans (if_neg k15) (Eq.trans (if_neg k21) (Eq.trans (if_pos k38) (Eq.trans (if_pos k46) (Eq.trans (if_neg k65) (Eq.trans (if_pos k86) rfl)))))
              have hg : fX6_toldAt v x1 x2 = 43 := by have e2 := congrArg (fun z => z) e_7; exact hg.trans e2
              exact eP_i hC (congrArg Value.int hg) dX6_toldAt_96
          · refine lv_bipush (v := 35) hC.1 hC.2.1 dX6_toldAt_68 (by decide +kernel) ?_
            refine lv_goto (tgt := 96) hC.1 hC.2.1 dX6_toldAt_70 (by decide) ?_
            have e_8 : fX6_toldAt v x1 x2 = 35 := by delta fX6_toldAt; exact Eq.trans (if_neg k15) (Eq.trans (if_neg k21) (Eq.trans (if_pos k38) (Eq.trans (if_pos k46) (Eq.trans (if_pos k65) rfl))))
            have hg : fX6_toldAt v x1 x2 = 35 := by have e2 := congrArg (fun z => z) e_8; exact hg.trans e2
            exact eP_i hC (congrArg Value.int hg) dX6_toldAt_96
        · refine lv_bipush (v := 124) hC.1 hC.2.1 dX6_toldAt_49 (by decide +kernel) ?_
          refine lv_goto (tgt := 96) hC.1 hC.2.1 dX6_toldAt_51 (by decide) ?_
          have e_9 : fX6_toldAt v x1 x2 = 124 := by delta fX6_toldAt; exact Eq.trans (if_neg k15) (Eq.trans (if_neg k21) (Eq.trans (if_pos k38) (Eq.trans (if_neg k46) rfl)))
          have hg : fX6_toldAt v x1 x2 = 124 := by have e2 := congrArg (fun z => z) e_9; exact hg.trans e2
          exact eP_i hC (congrArg Value.int hg) dX6_toldAt_96
      · refine lv_iconst (v := (-1)) hC.1 hC.2.1 dX6_toldAt_41 (by decide) ?_
        have e_10 : fX6_toldAt v x1 x2 = (-1) := by delta fX6_toldAt; exact Eq.trans (if_neg k15) (Eq.trans (if_neg k21) (Eq.trans (if_neg k38) rfl))
        have hg : fX6_toldAt v x1 x2 = (-1) := by have e2 := congrArg (fun z => z) e_10; exact hg.trans e2
        exact eP_i hC (congrArg Value.int hg) dX6_toldAt_42

theorem dX6_told_0 : decode cX6_told 0 = .ok (.aload_n 0, 1) := by decide +kernel
theorem dX6_told_1 : decode cX6_told 1 = .ok (.iconst 0, 1) := by decide +kernel
theorem dX6_told_2 : decode cX6_told 2 = .ok (.putfield 34, 3) := by decide +kernel
theorem dX6_told_5 : decode cX6_told 5 = .ok (.iload_n 1, 1) := by decide +kernel
theorem dX6_told_6 : decode cX6_told 6 = .ok (.iconst 0, 1) := by decide +kernel
theorem dX6_told_7 : decode cX6_told 7 = .ok (.bipush 11, 2) := by decide +kernel
theorem dX6_told_9 : decode cX6_told 9 = .ok (.invokestatic 39, 3) := by decide +kernel
theorem dX6_told_12 : decode cX6_told 12 = .ok (.ifCond .eq 16, 3) := by decide +kernel
theorem dX6_told_15 : decode cX6_told 15 = .ok (.iload_n 2, 1) := by decide +kernel
theorem dX6_told_16 : decode cX6_told 16 = .ok (.ifCond .lt 12, 3) := by decide +kernel
theorem dX6_told_19 : decode cX6_told 19 = .ok (.aload_n 0, 1) := by decide +kernel
theorem dX6_told_20 : decode cX6_told 20 = .ok (.iload_n 1, 1) := by decide +kernel
theorem dX6_told_21 : decode cX6_told 21 = .ok (.iload_n 2, 1) := by decide +kernel
theorem dX6_told_22 : decode cX6_told 22 = .ok (.invokevirtual 174, 3) := by decide +kernel
theorem dX6_told_25 : decode cX6_told 25 = .ok (.goto 8, 3) := by decide +kernel
theorem dX6_told_28 : decode cX6_told 28 = .ok (.aload_n 0, 1) := by decide +kernel
theorem dX6_told_29 : decode cX6_told 29 = .ok (.iconst 1, 1) := by decide +kernel
theorem dX6_told_30 : decode cX6_told 30 = .ok (.invokevirtual 46, 3) := by decide +kernel
theorem dX6_told_33 : decode cX6_told 33 = .ok (.ireturn, 1) := by decide +kernel
set_option maxHeartbeats 1000000 in
set_option maxRecDepth 100000 in
theorem c_X6_told (l : Launch) (G : GT) (q : Nat → Nat) (v : SV) (hs : Int64) (x1 : Int32) (x2 : Int32) (hq : mdD G q) : Met l yX6_told (Cond.code yX6_told cX6_told 3 (some .int) :: bigW) ({ frames := 3, cells := 0, slots := 0, locals := 66 }) (BP G [.ref (q 0), .int x1, .int x2] (fun U H => PW G (mdW G q v hs) H)) (QE (some (.int (fX6_told v x1 x2).2)) (fun H => PW G (mdW G q (fX6_told v x1 x2).1 hs) H) (mdA q)) 0 0 (mdA q) := by
  refine met_of (by decide) (Nat.le_of_ble_eq_true rfl) ?_
  intro p e s m below meth c ls hC hKN hB0 hl
  have hP := hB0
  have hl : lv_has ls 3 [(0, .ref (q 0)), (1, .int x1), (2, .int x2)] := hl
  have hS : va_S (mdA q) s.heap s.heap [] := va_S.rf
  have hAL : ∀ a, (mdA q) a → gL G ≤ a := mdD_low hq
  have hg : fX6_told v x1 x2 = fX6_told v x1 x2 := rfl
  refine lv_aload_n hC.1 hC.2.1 dX6_told_0 rfl (lv_at hl 0 rfl) ?_
  refine lv_iconst (v := 0) hC.1 hC.2.1 dX6_told_1 (by decide) ?_
  refine pf (v := .int 0) (tv := .int) hC fwX6 hKN hP (mdD_D hq v hs) hS 0 rfl rfl 6 (by decide) rfl wd_893 rfl rfl rfl (Nat.le_of_ble_eq_true rfl) dX6_told_2 (fun H locs hq_1 hS => ?_)
  have hP : PW G (mdW G q (mkM (v 0) (v 1) (v 2) (v 3) (v 4) (v 5) (v 6) (v 7) (v 8 0) (v 8 1) 0 (v 8 3) (v 8 4) (v 8 5) (v 8 6) (v 8 7) (v 8 8)) hs) H := hq_1
  refine lv_iload_n hC.1 hC.2.1 dX6_told_5 rfl (lv_at hl 1 rfl) ?_
  refine lv_iconst (v := 0) hC.1 hC.2.1 dX6_told_6 (by decide) ?_
  refine lv_bipush (v := 11) hC.1 hC.2.1 dX6_told_7 (by decide +kernel) ?_
  refine runP (rS (B := fun U H => True) (As := [.int x1, .int 0, .int 11]) (rest := []) hC mwX6_in (c_X6_in l G x1 0 11) wd_975 wd_974 ⟨rfl, rfl⟩ ⟨Nat.le_of_ble_eq_true rfl, Nat.le_of_ble_eq_true rfl⟩ (fun _ _ _ _ h => h) (hKN.go hAL hS) trivial rfl hl.1 rfl (Nat.le_of_ble_eq_true rfl) dX6_told_9 ⟨Nat.zero_le _, Nat.zero_le _⟩) ?_
  refine lv_if_eq (tgt := 28) hC.1 hC.2.1 dX6_told_12 (by decide) (fun k12 => ?_) (fun k12 => ?_)
  · refine lv_aload_n hC.1 hC.2.1 dX6_told_28 rfl (lv_at hl 0 rfl) ?_
    refine lv_iconst (v := 1) hC.1 hC.2.1 dX6_told_29 (by decide) ?_
    refine runE (rV (B := fun U H => PW G (mdW G q (mkM (v 0) (v 1) (v 2) (v 3) (v 4) (v 5) (v 6) (v 7) (v 8 0) (v 8 1) 0 (v 8 3) (v 8 4) (v 8 5) (v 8 6) (v 8 7) (v 8 8)) hs) H) (As := [.int 1]) (rest := []) hC mwX6_fails (c_X6_fails l G q (mkM (v 0) (v 1) (v 2) (v 3) (v 4) (v 5) (v 6) (v 7) (v 8 0) (v 8 1) 0 (v 8 3) (v 8 4) (v 8 5) (v 8 6) (v 8 7) (v 8 8)) hs 1 hq) iwX6_fails wd_950 ⟨rfl, rfl⟩ ⟨Nat.le_of_ble_eq_true rfl, Nat.le_of_ble_eq_true rfl⟩ (stb_h (fun H => PW G (mdW G q (mkM (v 0) (v 1) (v 2) (v 3) (v 4) (v 5) (v 6) (v 7) (v 8 0) (v 8 1) 0 (v 8 3) (v 8 4) (v 8 5) (v 8 6) (v 8 7) (v 8 8)) hs) H)) (hKN.go hAL hS) hP (va_recv (hKN.go hAL hS).k hP (ci := 6) (q0 := 0) rfl rfl) rfl hl.1 rfl (Nat.le_of_ble_eq_true rfl) dX6_told_30 ⟨Nat.zero_le _, Nat.zero_le _⟩) hS (fun _ h => h) (fun _ h => h) (fun H locs hq_2 _ _ hS => ?_)
    have hP : PW G (mdW G q ((fX6_fails (mkM (v 0) (v 1) (v 2) (v 3) (v 4) (v 5) (v 6) (v 7) (v 8 0) (v 8 1) 0 (v 8 3) (v 8 4) (v 8 5) (v 8 6) (v 8 7) (v 8 8)) 1).1) hs) H := hq_2
    obtain ⟨r_3, er_3⟩ : ∃ z, z = fX6_fails (mkM (v 0) (v 1) (v 2) (v 3) (v 4) (v 5) (v 6) (v 7) (v 8 0) (v 8 1) 0 (v 8 3) (v 8 4) (v 8 5) (v 8 6) (v 8 7) (v 8 8)) 1 := ⟨_, rfl⟩
    rw [← er_3] at hP
    show W p l e ({ frames := 3, cells := 0, slots := 0, locals := 66 }) s m ([.ref (q 0), .int x1, .int x2] : List Value).toArray below meth c H locs (0 + 0) (0 + 0) _ (F0 m (30 + 3) ls [.int ((fX6_fails (mkM (v 0) (v 1) (v 2) (v 3) (v 4) (v 5) (v 6) (v 7) (v 8 0) (v 8 1) 0 (v 8 3) (v 8 4) (v 8 5) (v 8 6) (v 8 7) (v 8 8)) 1).2)])
    rw [← er_3]
    have e_4 : fX6_told v x1 x2 = (r_3.1, r_3.2) := by have q_ := er_3.symm; subst q_; delta fX6_told; exact Eq.trans (if_pos k12) rfl
    have hg : fX6_told v x1 x2 = (r_3.1, r_3.2) := by have e2 := congrArg (fun z => z) e_4; exact hg.trans e2
    exact eE_i hC (by rw [hg]) (by show PW G (mdW G q (fX6_told v x1 x2).1 hs) H; rw [hg]; exact hP) hS dX6_told_33
  · refine lv_iload_n hC.1 hC.2.1 dX6_told_15 rfl (lv_at hl 2 rfl) ?_
    refine lv_if_lt (tgt := 28) hC.1 hC.2.1 dX6_told_16 (by decide) (fun k16 => ?_) (fun k16 => ?_)
    · refine lv_aload_n hC.1 hC.2.1 dX6_told_28 rfl (lv_at hl 0 rfl) ?_
      refine lv_iconst (v := 1) hC.1 hC.2.1 dX6_told_29 (by decide) ?_
      refine runE (rV (B := fun U H => PW G (mdW G q (mkM (v 0) (v 1) (v 2) (v 3) (v 4) (v 5) (v 6) (v 7) (v 8 0) (v 8 1) 0 (v 8 3) (v 8 4) (v 8 5) (v 8 6) (v 8 7) (v 8 8)) hs) H) (As := [.int 1]) (rest := []) hC mwX6_fails (c_X6_fails l G q (mkM (v 0) (v 1) (v 2) (v 3) (v 4) (v 5) (v 6) (v 7) (v 8 0) (v 8 1) 0 (v 8 3) (v 8 4) (v 8 5) (v 8 6) (v 8 7) (v 8 8)) hs 1 hq) iwX6_fails wd_950 ⟨rfl, rfl⟩ ⟨Nat.le_of_ble_eq_true rfl, Nat.le_of_ble_eq_true rfl⟩ (stb_h (fun H => PW G (mdW G q (mkM (v 0) (v 1) (v 2) (v 3) (v 4) (v 5) (v 6) (v 7) (v 8 0) (v 8 1) 0 (v 8 3) (v 8 4) (v 8 5) (v 8 6) (v 8 7) (v 8 8)) hs) H)) (hKN.go hAL hS) hP (va_recv (hKN.go hAL hS).k hP (ci := 6) (q0 := 0) rfl rfl) rfl hl.1 rfl (Nat.le_of_ble_eq_true rfl) dX6_told_30 ⟨Nat.zero_le _, Nat.zero_le _⟩) hS (fun _ h => h) (fun _ h => h) (fun H locs hq_5 _ _ hS => ?_)
      have hP : PW G (mdW G q ((fX6_fails (mkM (v 0) (v 1) (v 2) (v 3) (v 4) (v 5) (v 6) (v 7) (v 8 0) (v 8 1) 0 (v 8 3) (v 8 4) (v 8 5) (v 8 6) (v 8 7) (v 8 8)) 1).1) hs) H := hq_5
      obtain ⟨r_6, er_6⟩ : ∃ z, z = fX6_fails (mkM (v 0) (v 1) (v 2) (v 3) (v 4) (v 5) (v 6) (v 7) (v 8 0) (v 8 1) 0 (v 8 3) (v 8 4) (v 8 5) (v 8 6) (v 8 7) (v 8 8)) 1 := ⟨_, rfl⟩
      rw [← er_6] at hP
      show W p l e ({ frames := 3, cells := 0, slots := 0, locals := 66 }) s m ([.ref (q 0), .int x1, .int x2] : List Value).toArray below meth c H locs (0 + 0) (0 + 0) _ (F0 m (30 + 3) ls [.int ((fX6_fails (mkM (v 0) (v 1) (v 2) (v 3) (v 4) (v 5) (v 6) (v 7) (v 8 0) (v 8 1) 0 (v 8 3) (v 8 4) (v 8 5) (v 8 6) (v 8 7) (v 8 8)) 1).2)])
      rw [← er_6]
      have e_7 : fX6_told v x1 x2 = (r_6.1, r_6.2) := by have q_ := er_6.symm; subst q_; delta fX6_told; exact Eq.trans (if_neg k12) (Eq.trans (if_pos k16) rfl)
      have hg : fX6_told v x1 x2 = (r_6.1, r_6.2) := by have e2 := congrArg (fun z => z) e_7; exact hg.trans e2
      exact eE_i hC (by rw [hg]) (by show PW G (mdW G q (fX6_told v x1 x2).1 hs) H; rw [hg]; exact hP) hS dX6_told_33
    · refine lv_aload_n hC.1 hC.2.1 dX6_told_19 rfl (lv_at hl 0 rfl) ?_
      refine lv_iload_n hC.1 hC.2.1 dX6_told_20 rfl (lv_at hl 1 rfl) ?_
      refine lv_topi (fun w_8 ew_8 => ?_)
      rw [show w_8 = nI x1.toNatClampNeg from ew_8.trans (lq (in_nat (b := 11) (by omega) k12))]
      refine lv_iload_n hC.1 hC.2.1 dX6_told_21 rfl (lv_at hl 2 rfl) ?_
      refine runP (rV (B := fun U H => PW G (mdW G q (mkM (v 0) (v 1) (v 2) (v 3) (v 4) (v 5) (v 6) (v 7) (v 8 0) (v 8 1) 0 (v 8 3) (v 8 4) (v 8 5) (v 8 6) (v 8 7) (v 8 8)) hs) H) (As := [.int (nI x1.toNatClampNeg), .int x2]) (rest := []) hC mwX6_toldAt (c_X6_toldAt l G q (mkM (v 0) (v 1) (v 2) (v 3) (v 4) (v 5) (v 6) (v 7) (v 8 0) (v 8 1) 0 (v 8 3) (v 8 4) (v 8 5) (v 8 6) (v 8 7) (v 8 8)) hs x1.toNatClampNeg x2 (by have := (in_nat (b := 11) (by omega) k12).2; omega)) iwX6_toldAt wd_1126 ⟨rfl, rfl⟩ ⟨Nat.le_of_ble_eq_true rfl, Nat.le_of_ble_eq_true rfl⟩ (stb_h (fun H => PW G (mdW G q (mkM (v 0) (v 1) (v 2) (v 3) (v 4) (v 5) (v 6) (v 7) (v 8 0) (v 8 1) 0 (v 8 3) (v 8 4) (v 8 5) (v 8 6) (v 8 7) (v 8 8)) hs) H)) (hKN.go hAL hS) hP (va_recv (hKN.go hAL hS).k hP (ci := 6) (q0 := 0) rfl rfl) rfl hl.1 rfl (Nat.le_of_ble_eq_true rfl) dX6_told_22 ⟨Nat.zero_le _, Nat.zero_le _⟩) ?_
      refine lv_goto (tgt := 33) hC.1 hC.2.1 dX6_told_25 (by decide) ?_
      have e_9 : fX6_told v x1 x2 = (mkM (v 0) (v 1) (v 2) (v 3) (v 4) (v 5) (v 6) (v 7) (v 8 0) (v 8 1) 0 (v 8 3) (v 8 4) (v 8 5) (v 8 6) (v 8 7) (v 8 8), fX6_toldAt (mkM (v 0) (v 1) (v 2) (v 3) (v 4) (v 5) (v 6) (v 7) (v 8 0) (v 8 1) 0 (v 8 3) (v 8 4) (v 8 5) (v 8 6) (v 8 7) (v 8 8)) x1.toNatClampNeg x2) := by delta fX6_told; exact Eq.trans (if_neg k12) (Eq.trans (if_neg k16) rfl)
      have hg : fX6_told v x1 x2 = (mkM (v 0) (v 1) (v 2) (v 3) (v 4) (v 5) (v 6) (v 7) (v 8 0) (v 8 1) 0 (v 8 3) (v 8 4) (v 8 5) (v 8 6) (v 8 7) (v 8 8), fX6_toldAt (mkM (v 0) (v 1) (v 2) (v 3) (v 4) (v 5) (v 6) (v 7) (v 8 0) (v 8 1) 0 (v 8 3) (v 8 4) (v 8 5) (v 8 6) (v 8 7) (v 8 8)) x1.toNatClampNeg x2) := by have e2 := congrArg (fun z => z) e_9; exact hg.trans e2
      exact eE_i hC (by rw [hg]) (by show PW G (mdW G q (fX6_told v x1 x2).1 hs) H; rw [hg]; exact hP) hS dX6_told_33

theorem dX6_waitOf_0 : decode cX6_waitOf 0 = .ok (.aload_n 0, 1) := by decide +kernel
theorem dX6_waitOf_1 : decode cX6_waitOf 1 = .ok (.getfield 7, 3) := by decide +kernel
theorem dX6_waitOf_4 : decode cX6_waitOf 4 = .ok (.iload_n 1, 1) := by decide +kernel
theorem dX6_waitOf_5 : decode cX6_waitOf 5 = .ok (.iaload, 1) := by decide +kernel
theorem dX6_waitOf_6 : decode cX6_waitOf 6 = .ok (.istore_n 2, 1) := by decide +kernel
theorem dX6_waitOf_7 : decode cX6_waitOf 7 = .ok (.iconst 0, 1) := by decide +kernel
theorem dX6_waitOf_8 : decode cX6_waitOf 8 = .ok (.istore_n 3, 1) := by decide +kernel
theorem dX6_waitOf_9 : decode cX6_waitOf 9 = .ok (.iload_n 2, 1) := by decide +kernel
theorem dX6_waitOf_10 : decode cX6_waitOf 10 = .ok (.aload_n 0, 1) := by decide +kernel
theorem dX6_waitOf_11 : decode cX6_waitOf 11 = .ok (.iconst 1, 1) := by decide +kernel
theorem dX6_waitOf_12 : decode cX6_waitOf 12 = .ok (.iload_n 1, 1) := by decide +kernel
theorem dX6_waitOf_13 : decode cX6_waitOf 13 = .ok (.ishl, 1) := by decide +kernel
theorem dX6_waitOf_14 : decode cX6_waitOf 14 = .ok (.iload_n 1, 1) := by decide +kernel
theorem dX6_waitOf_15 : decode cX6_waitOf 15 = .ok (.invokevirtual 78, 3) := by decide +kernel
theorem dX6_waitOf_18 : decode cX6_waitOf 18 = .ok (.iadd, 1) := by decide +kernel
theorem dX6_waitOf_19 : decode cX6_waitOf 19 = .ok (.aload_n 0, 1) := by decide +kernel
theorem dX6_waitOf_20 : decode cX6_waitOf 20 = .ok (.getfield 7, 3) := by decide +kernel
theorem dX6_waitOf_23 : decode cX6_waitOf 23 = .ok (.bipush 76, 2) := by decide +kernel
theorem dX6_waitOf_25 : decode cX6_waitOf 25 = .ok (.iaload, 1) := by decide +kernel
theorem dX6_waitOf_26 : decode cX6_waitOf 26 = .ok (.if_icmp .le 15, 3) := by decide +kernel
theorem dX6_waitOf_29 : decode cX6_waitOf 29 = .ok (.aload_n 0, 1) := by decide +kernel
theorem dX6_waitOf_30 : decode cX6_waitOf 30 = .ok (.iload_n 2, 1) := by decide +kernel
theorem dX6_waitOf_31 : decode cX6_waitOf 31 = .ok (.invokevirtual 57, 3) := by decide +kernel
theorem dX6_waitOf_34 : decode cX6_waitOf 34 = .ok (.istore_n 2, 1) := by decide +kernel
theorem dX6_waitOf_35 : decode cX6_waitOf 35 = .ok (.iinc 3 1, 3) := by decide +kernel
theorem dX6_waitOf_38 : decode cX6_waitOf 38 = .ok (.goto (-29), 3) := by decide +kernel
theorem dX6_waitOf_41 : decode cX6_waitOf 41 = .ok (.iload_n 3, 1) := by decide +kernel
theorem dX6_waitOf_42 : decode cX6_waitOf 42 = .ok (.ireturn, 1) := by decide +kernel
set_option maxHeartbeats 1000000 in
set_option maxRecDepth 100000 in
theorem c_X6_waitOf (l : Launch) (G : GT) (q : Nat → Nat) (v : SV) (hs : Int64) (x1 : Nat) (hI : SI (v 0)) (hx : x1 < 24) : Met l yX6_waitOf (Cond.code yX6_waitOf cX6_waitOf 4 (some .int) :: bigW) ({ frames := 4, cells := 0, slots := 0, locals := 90 }) (BP G [.ref (q 0), .int (nI x1)] (fun U H => PW G (mdW G q v hs) H)) (QP (.int (fX6_waitOf v x1))) 0 0 (fun _ => False) := by
  refine met_of (by decide) (Nat.le_of_ble_eq_true rfl) ?_
  intro p e s m below meth c ls hC hKN hB0 hl
  have hP := hB0
  have hl : lv_has ls 4 [(0, .ref (q 0)), (1, .int (nI x1))] := hl
  have hg : fX6_waitOf v x1 = fX6_waitOf v x1 := rfl
  refine lv_aload_n hC.1 hC.2.1 dX6_waitOf_0 rfl (lv_at hl 0 rfl) ?_
  refine gf (v := .ref (q 1)) hC fwX6 hKN hP 0 rfl rfl 0 (by decide) rfl wd_887 rfl dX6_waitOf_1 ?_
  refine lv_iload_n hC.1 hC.2.1 dX6_waitOf_4 rfl (lv_at hl 1 rfl) ?_
  refine iald_k hC hKN hP 1 rfl (n := 124) (f := (v 0)) x1 (rfl) (by omega) (by decide) dX6_waitOf_5 ?_
  refine lv_istore_n (lv' := [(2, .int ((v 0) x1)), (0, .ref (q 0)), (1, .int (nI x1))]) hC.1 hC.2.1 dX6_waitOf_6 rfl hl (by decide) rfl (fun ls hl => ?_)
  refine lv_iconst (v := 0) hC.1 hC.2.1 dX6_waitOf_7 (by decide) ?_
  refine lv_istore_n (lv' := [(3, .int 0), (2, .int ((v 0) x1)), (0, .ref (q 0)), (1, .int (nI x1))]) hC.1 hC.2.1 dX6_waitOf_8 rfl hl (by decide) rfl (fun ls hl => ?_)
  have A9 : ∀ (y2_9 : Int32) (y3_9 : Int32), fX6_waitOf v x1 = (tX6_waitOf_9 v x1 (y2_9, y3_9)) → SI (v 0) → ∀ (ls : Array Slot), lv_has ls 4 [(3, .int y3_9)] → W p l e ({ frames := 4, cells := 0, slots := 0, locals := 90 }) s m ([.ref (q 0), .int (nI x1)] : List Value).toArray below meth c s.heap [] 0 0 (MQ below (QP (.int (fX6_waitOf v x1))) ([.ref (q 0), .int (nI x1)] : List Value).toArray s 0 0 (fun _ => False)) (F0 m 41 ls []) := by
    intro  y2_9 y3_9 hg hI ls hl
    refine lv_iload_n hC.1 hC.2.1 dX6_waitOf_41 rfl (lv_at hl 0 rfl) ?_
    have e_1 : tX6_waitOf_9 v x1 (y2_9, y3_9) = y3_9 := by delta tX6_waitOf_9; exact rfl
    have hg : fX6_waitOf v x1 = y3_9 := by have e2 := congrArg (fun z => z) e_1; exact hg.trans e2
    exact eP_i hC (congrArg Value.int hg) dX6_waitOf_42
  have L9 : ∀ (n9 : Nat), ∀ (y2_9 : Int32) (y3_9 : Int32), lpT n9 (bX6_waitOf_9 v x1) (y2_9, y3_9) → fX6_waitOf v x1 = (tX6_waitOf_9 v x1 (lpB n9 (bX6_waitOf_9 v x1) (y2_9, y3_9))) → SI (v 0) → ∀ (ls : Array Slot), lv_has ls 4 [(0, .ref (q 0)), (1, .int (nI x1)), (2, .int y2_9), (3, .int y3_9)] → W p l e ({ frames := 4, cells := 0, slots := 0, locals := 90 }) s m ([.ref (q 0), .int (nI x1)] : List Value).toArray below meth c s.heap [] 0 0 (MQ below (QP (.int (fX6_waitOf v x1))) ([.ref (q 0), .int (nI x1)] : List Value).toArray s 0 0 (fun _ => False)) (F0 m 9 ls []) := by
    intro n9
    induction n9 with
    | zero =>
      intro y2_9 y3_9 hT
      exact hT.elim
    | succ n9 ih =>
      intro y2_9 y3_9 hT hg hI ls hl
      have hg : fX6_waitOf v x1 = (tX6_waitOf_9 v x1 (lpBs n9 (bX6_waitOf_9 v x1) (bX6_waitOf_9 v x1 (y2_9, y3_9)))) := hg
      have hT : lpTs n9 (bX6_waitOf_9 v x1) (bX6_waitOf_9 v x1 (y2_9, y3_9)) := hT
      refine lv_iload_n hC.1 hC.2.1 dX6_waitOf_9 rfl (lv_at hl 2 rfl) ?_
      refine lv_aload_n hC.1 hC.2.1 dX6_waitOf_10 rfl (lv_at hl 0 rfl) ?_
      refine lv_iconst (v := 1) hC.1 hC.2.1 dX6_waitOf_11 (by decide) ?_
      refine lv_iload_n hC.1 hC.2.1 dX6_waitOf_12 rfl (lv_at hl 1 rfl) ?_
      refine lv_ishl hC.1 hC.2.1 dX6_waitOf_13 ?_
      refine lv_iload_n hC.1 hC.2.1 dX6_waitOf_14 rfl (lv_at hl 1 rfl) ?_
      refine runP (rV (B := fun U H => PW G (mdW G q v hs) H) (As := [.int (1 <<< ((nI x1) &&& 31)), .int (nI x1)]) (rest := [.int y2_9]) hC mwX6_pulse (c_X6_pulse l G q v hs (1 <<< ((nI x1) &&& 31)) (nI x1)) iwX6_pulse wd_1003 ⟨rfl, rfl⟩ ⟨Nat.le_of_ble_eq_true rfl, Nat.le_of_ble_eq_true rfl⟩ (stb_h (fun H => PW G (mdW G q v hs) H)) hKN hP (va_recv hKN.k hP (ci := 6) (q0 := 0) rfl rfl) rfl hl.1 rfl (Nat.le_of_ble_eq_true rfl) dX6_waitOf_15 ⟨Nat.zero_le _, Nat.zero_le _⟩) ?_
      refine lv_iadd hC.1 hC.2.1 dX6_waitOf_18 ?_
      refine lv_aload_n hC.1 hC.2.1 dX6_waitOf_19 rfl (lv_at hl 0 rfl) ?_
      refine gf (v := .ref (q 1)) hC fwX6 hKN hP 0 rfl rfl 0 (by decide) rfl wd_887 rfl dX6_waitOf_20 ?_
      refine lv_bipush (v := 76) hC.1 hC.2.1 dX6_waitOf_23 (by decide +kernel) ?_
      refine iald_k hC hKN hP 1 rfl (n := 124) (f := (v 0)) 76 (rfl) (by omega) (by decide) dX6_waitOf_25 ?_
      refine lv_icmp_le (tgt := 41) hC.1 hC.2.1 dX6_waitOf_26 (by decide) (fun k26 => ?_) (fun k26 => ?_)
      · have e_2 : bX6_waitOf_9 v x1 (y2_9, y3_9) = (false, (y2_9, y3_9)) := by delta bX6_waitOf_9; exact Eq.trans (if_pos k26) rfl
        have hg : fX6_waitOf v x1 = (tX6_waitOf_9 v x1 (y2_9, y3_9)) := by have e2 := congrArg (fun z => (tX6_waitOf_9 v x1 (lpBs n9 (bX6_waitOf_9 v x1) z))) e_2; exact hg.trans e2
        have hT : lpTs n9 (bX6_waitOf_9 v x1) (false, (y2_9, y3_9)) := by rw [← e_2]; exact hT
        exact A9  y2_9 y3_9 hg hI _ (lv_sub hl [3] rfl)
      · refine lv_aload_n hC.1 hC.2.1 dX6_waitOf_29 rfl (lv_at hl 0 rfl) ?_
        refine lv_iload_n hC.1 hC.2.1 dX6_waitOf_30 rfl (lv_at hl 2 rfl) ?_
        refine runP (rV (B := fun U H => PW G (mdW G q v hs) H) (As := [.int y2_9]) (rest := []) hC mwX6_cooled (c_X6_cooled l G q v hs y2_9 hI) iwX6_cooled wd_1015 ⟨rfl, rfl⟩ ⟨Nat.le_of_ble_eq_true rfl, Nat.le_of_ble_eq_true rfl⟩ (stb_h (fun H => PW G (mdW G q v hs) H)) hKN hP (va_recv hKN.k hP (ci := 6) (q0 := 0) rfl rfl) rfl hl.1 rfl (Nat.le_of_ble_eq_true rfl) dX6_waitOf_31 ⟨Nat.zero_le _, Nat.zero_le _⟩) ?_
        refine lv_istore_n (lv' := [(2, .int (fX6_cooled v y2_9)), (0, .ref (q 0)), (1, .int (nI x1)), (3, .int y3_9)]) hC.1 hC.2.1 dX6_waitOf_34 rfl hl (by decide) rfl (fun ls hl => ?_)
        refine lv_iinc (v := y3_9 + 1) (lv' := [(3, .int (y3_9 + 1)), (2, .int (fX6_cooled v y2_9)), (0, .ref (q 0)), (1, .int (nI x1))]) hC.1 hC.2.1 dX6_waitOf_35 hl (k := 3) rfl rfl (by decide) rfl (fun ls hl => ?_)
        refine lv_goto (tgt := 9) hC.1 hC.2.1 dX6_waitOf_38 (by decide) ?_
        have e_3 : bX6_waitOf_9 v x1 (y2_9, y3_9) = (true, (fX6_cooled v y2_9, y3_9 + 1)) := by delta bX6_waitOf_9; exact Eq.trans (if_neg k26) rfl
        have hg : fX6_waitOf v x1 = (tX6_waitOf_9 v x1 (lpB n9 (bX6_waitOf_9 v x1) (fX6_cooled v y2_9, y3_9 + 1))) := by have e2 := congrArg (fun z => (tX6_waitOf_9 v x1 (lpBs n9 (bX6_waitOf_9 v x1) z))) e_3; exact hg.trans e2
        have hT : lpTs n9 (bX6_waitOf_9 v x1) (true, (fX6_cooled v y2_9, y3_9 + 1)) := by rw [← e_3]; exact hT
        exact ih (fX6_cooled v y2_9) (y3_9 + 1) (lpT_go hT) hg hI _ (lv_sub hl [2, 3, 1, 0] rfl)
  have e_4 : fX6_waitOf v x1 = tX6_waitOf_9 v x1 (lpB (mT + 1) (bX6_waitOf_9 v x1) ((v 0) x1, 0)) := by delta fX6_waitOf; exact rfl
  have hg : fX6_waitOf v x1 = (tX6_waitOf_9 v x1 (lpB (mT + 1) (bX6_waitOf_9 v x1) ((v 0) x1, 0))) := by have e2 := congrArg (fun z => z) e_4; exact hg.trans e2
  exact L9  (mT + 1) ((v 0) x1) 0 (T_waitOf v x1 hI _) hg hI _ (lv_sub hl [2, 3, 1, 0] rfl)

theorem dX6_ofDot_0 : decode cX6_ofDot 0 = .ok (.iload_n 2, 1) := by decide +kernel
theorem dX6_ofDot_1 : decode cX6_ofDot 1 = .ok (.tableswitch 99 0 5 #[39, 46, 58, 70, 80, 90], 39) := by decide +kernel
theorem dX6_ofDot_40 : decode cX6_ofDot 40 = .ok (.aload_n 0, 1) := by decide +kernel
theorem dX6_ofDot_41 : decode cX6_ofDot 41 = .ok (.getfield 7, 3) := by decide +kernel
theorem dX6_ofDot_44 : decode cX6_ofDot 44 = .ok (.iload_n 1, 1) := by decide +kernel
theorem dX6_ofDot_45 : decode cX6_ofDot 45 = .ok (.iaload, 1) := by decide +kernel
theorem dX6_ofDot_46 : decode cX6_ofDot 46 = .ok (.ireturn, 1) := by decide +kernel
theorem dX6_ofDot_47 : decode cX6_ofDot 47 = .ok (.aload_n 0, 1) := by decide +kernel
theorem dX6_ofDot_48 : decode cX6_ofDot 48 = .ok (.getfield 7, 3) := by decide +kernel
theorem dX6_ofDot_51 : decode cX6_ofDot 51 = .ok (.bipush 24, 2) := by decide +kernel
theorem dX6_ofDot_53 : decode cX6_ofDot 53 = .ok (.iaload, 1) := by decide +kernel
theorem dX6_ofDot_54 : decode cX6_ofDot 54 = .ok (.iload_n 1, 1) := by decide +kernel
theorem dX6_ofDot_55 : decode cX6_ofDot 55 = .ok (.invokestatic 60, 3) := by decide +kernel
theorem dX6_ofDot_58 : decode cX6_ofDot 58 = .ok (.ireturn, 1) := by decide +kernel
theorem dX6_ofDot_59 : decode cX6_ofDot 59 = .ok (.aload_n 0, 1) := by decide +kernel
theorem dX6_ofDot_60 : decode cX6_ofDot 60 = .ok (.getfield 7, 3) := by decide +kernel
theorem dX6_ofDot_63 : decode cX6_ofDot 63 = .ok (.bipush 25, 2) := by decide +kernel
theorem dX6_ofDot_65 : decode cX6_ofDot 65 = .ok (.iaload, 1) := by decide +kernel
theorem dX6_ofDot_66 : decode cX6_ofDot 66 = .ok (.iload_n 1, 1) := by decide +kernel
theorem dX6_ofDot_67 : decode cX6_ofDot 67 = .ok (.invokestatic 60, 3) := by decide +kernel
theorem dX6_ofDot_70 : decode cX6_ofDot 70 = .ok (.ireturn, 1) := by decide +kernel
theorem dX6_ofDot_71 : decode cX6_ofDot 71 = .ok (.aload_n 0, 1) := by decide +kernel
theorem dX6_ofDot_72 : decode cX6_ofDot 72 = .ok (.getfield 7, 3) := by decide +kernel
theorem dX6_ofDot_75 : decode cX6_ofDot 75 = .ok (.bipush 26, 2) := by decide +kernel
theorem dX6_ofDot_77 : decode cX6_ofDot 77 = .ok (.iload_n 1, 1) := by decide +kernel
theorem dX6_ofDot_78 : decode cX6_ofDot 78 = .ok (.iadd, 1) := by decide +kernel
theorem dX6_ofDot_79 : decode cX6_ofDot 79 = .ok (.iaload, 1) := by decide +kernel
theorem dX6_ofDot_80 : decode cX6_ofDot 80 = .ok (.ireturn, 1) := by decide +kernel
theorem dX6_ofDot_81 : decode cX6_ofDot 81 = .ok (.aload_n 0, 1) := by decide +kernel
theorem dX6_ofDot_82 : decode cX6_ofDot 82 = .ok (.getfield 7, 3) := by decide +kernel
theorem dX6_ofDot_85 : decode cX6_ofDot 85 = .ok (.bipush 50, 2) := by decide +kernel
theorem dX6_ofDot_87 : decode cX6_ofDot 87 = .ok (.iload_n 1, 1) := by decide +kernel
theorem dX6_ofDot_88 : decode cX6_ofDot 88 = .ok (.iadd, 1) := by decide +kernel
theorem dX6_ofDot_89 : decode cX6_ofDot 89 = .ok (.iaload, 1) := by decide +kernel
theorem dX6_ofDot_90 : decode cX6_ofDot 90 = .ok (.ireturn, 1) := by decide +kernel
theorem dX6_ofDot_91 : decode cX6_ofDot 91 = .ok (.aload_n 0, 1) := by decide +kernel
theorem dX6_ofDot_92 : decode cX6_ofDot 92 = .ok (.iconst 1, 1) := by decide +kernel
theorem dX6_ofDot_93 : decode cX6_ofDot 93 = .ok (.iload_n 1, 1) := by decide +kernel
theorem dX6_ofDot_94 : decode cX6_ofDot 94 = .ok (.ishl, 1) := by decide +kernel
theorem dX6_ofDot_95 : decode cX6_ofDot 95 = .ok (.iload_n 1, 1) := by decide +kernel
theorem dX6_ofDot_96 : decode cX6_ofDot 96 = .ok (.invokevirtual 78, 3) := by decide +kernel
theorem dX6_ofDot_99 : decode cX6_ofDot 99 = .ok (.ireturn, 1) := by decide +kernel
theorem dX6_ofDot_100 : decode cX6_ofDot 100 = .ok (.aload_n 0, 1) := by decide +kernel
theorem dX6_ofDot_101 : decode cX6_ofDot 101 = .ok (.iload_n 1, 1) := by decide +kernel
theorem dX6_ofDot_102 : decode cX6_ofDot 102 = .ok (.invokevirtual 177, 3) := by decide +kernel
theorem dX6_ofDot_105 : decode cX6_ofDot 105 = .ok (.ireturn, 1) := by decide +kernel
set_option maxHeartbeats 1000000 in
set_option maxRecDepth 100000 in
theorem c_X6_ofDot (l : Launch) (G : GT) (q : Nat → Nat) (v : SV) (hs : Int64) (x1 : Nat) (x2 : Int32) (hI : SI (v 0)) (hx : x1 < 24) : Met l yX6_ofDot (Cond.code yX6_ofDot cX6_ofDot 3 (some .int) :: bigW) ({ frames := 5, cells := 0, slots := 0, locals := 113 }) (BP G [.ref (q 0), .int (nI x1), .int x2] (fun U H => PW G (mdW G q v hs) H)) (QP (.int (fX6_ofDot v x1 x2))) 0 0 (fun _ => False) := by
  refine met_of (by decide) (Nat.le_of_ble_eq_true rfl) ?_
  intro p e s m below meth c ls hC hKN hB0 hl
  have hP := hB0
  have hl : lv_has ls 3 [(0, .ref (q 0)), (1, .int (nI x1)), (2, .int x2)] := hl
  have hg : fX6_ofDot v x1 x2 = fX6_ofDot v x1 x2 := rfl
  refine lv_iload_n hC.1 hC.2.1 dX6_ofDot_0 rfl (lv_at hl 2 rfl) ?_
  by_cases k1_0 : x2 = 0
  · refine swIn hC (tgt := 40) 0 k1_0 dX6_ofDot_1 (by decide) (by decide) rfl (by decide) ?_
    refine lv_aload_n hC.1 hC.2.1 dX6_ofDot_40 rfl (lv_at hl 0 rfl) ?_
    refine gf (v := .ref (q 1)) hC fwX6 hKN hP 0 rfl rfl 0 (by decide) rfl wd_887 rfl dX6_ofDot_41 ?_
    refine lv_iload_n hC.1 hC.2.1 dX6_ofDot_44 rfl (lv_at hl 1 rfl) ?_
    refine iald_k hC hKN hP 1 rfl (n := 124) (f := (v 0)) x1 (rfl) (by omega) (by decide) dX6_ofDot_45 ?_
    have e_1 : fX6_ofDot v x1 x2 = (v 0) x1 := by delta fX6_ofDot; exact Eq.trans (if_pos k1_0) rfl
    have hg : fX6_ofDot v x1 x2 = (v 0) x1 := by have e2 := congrArg (fun z => z) e_1; exact hg.trans e2
    exact eP_i hC (congrArg Value.int hg) dX6_ofDot_46
  · skip
    by_cases k1_1 : x2 = 1
    · refine swIn hC (tgt := 47) 1 k1_1 dX6_ofDot_1 (by decide) (by decide) rfl (by decide) ?_
      refine lv_aload_n hC.1 hC.2.1 dX6_ofDot_47 rfl (lv_at hl 0 rfl) ?_
      refine gf (v := .ref (q 1)) hC fwX6 hKN hP 0 rfl rfl 0 (by decide) rfl wd_887 rfl dX6_ofDot_48 ?_
      refine lv_bipush (v := 24) hC.1 hC.2.1 dX6_ofDot_51 (by decide +kernel) ?_
      refine iald_k hC hKN hP 1 rfl (n := 124) (f := (v 0)) 24 (rfl) (by omega) (by decide) dX6_ofDot_53 ?_
      refine lv_iload_n hC.1 hC.2.1 dX6_ofDot_54 rfl (lv_at hl 1 rfl) ?_
      refine runP (rS (B := fun U H => True) (As := [.int ((v 0) 24), .int (nI x1)]) (rest := []) hC mwX6_bit (c_X6_bit l G ((v 0) 24) (nI x1)) wd_997 wd_996 ⟨rfl, rfl⟩ ⟨Nat.le_of_ble_eq_true rfl, Nat.le_of_ble_eq_true rfl⟩ (fun _ _ _ _ h => h) hKN trivial rfl hl.1 rfl (Nat.le_of_ble_eq_true rfl) dX6_ofDot_55 ⟨Nat.zero_le _, Nat.zero_le _⟩) ?_
      have e_2 : fX6_ofDot v x1 x2 = fX6_bit ((v 0) 24) (nI x1) := by delta fX6_ofDot; exact Eq.trans (if_neg k1_0) (Eq.trans (if_pos k1_1) rfl)
      have hg : fX6_ofDot v x1 x2 = fX6_bit ((v 0) 24) (nI x1) := by have e2 := congrArg (fun z => z) e_2; exact hg.trans e2
      exact eP_i hC (congrArg Value.int hg) dX6_ofDot_58
    · skip
      by_cases k1_2 : x2 = 2
      · refine swIn hC (tgt := 59) 2 k1_2 dX6_ofDot_1 (by decide) (by decide) rfl (by decide) ?_
        refine lv_aload_n hC.1 hC.2.1 dX6_ofDot_59 rfl (lv_at hl 0 rfl) ?_
        refine gf (v := .ref (q 1)) hC fwX6 hKN hP 0 rfl rfl 0 (by decide) rfl wd_887 rfl dX6_ofDot_60 ?_
        refine lv_bipush (v := 25) hC.1 hC.2.1 dX6_ofDot_63 (by decide +kernel) ?_
        refine iald_k hC hKN hP 1 rfl (n := 124) (f := (v 0)) 25 (rfl) (by omega) (by decide) dX6_ofDot_65 ?_
        refine lv_iload_n hC.1 hC.2.1 dX6_ofDot_66 rfl (lv_at hl 1 rfl) ?_
        refine runP (rS (B := fun U H => True) (As := [.int ((v 0) 25), .int (nI x1)]) (rest := []) hC mwX6_bit (c_X6_bit l G ((v 0) 25) (nI x1)) wd_997 wd_996 ⟨rfl, rfl⟩ ⟨Nat.le_of_ble_eq_true rfl, Nat.le_of_ble_eq_true rfl⟩ (fun _ _ _ _ h => h) hKN trivial rfl hl.1 rfl (Nat.le_of_ble_eq_true rfl) dX6_ofDot_67 ⟨Nat.zero_le _, Nat.zero_le _⟩) ?_
        have e_3 : fX6_ofDot v x1 x2 = fX6_bit ((v 0) 25) (nI x1) := by delta fX6_ofDot; exact Eq.trans (if_neg k1_0) (Eq.trans (if_neg k1_1) (Eq.trans (if_pos k1_2) rfl))
        have hg : fX6_ofDot v x1 x2 = fX6_bit ((v 0) 25) (nI x1) := by have e2 := congrArg (fun z => z) e_3; exact hg.trans e2
        exact eP_i hC (congrArg Value.int hg) dX6_ofDot_70
      · skip
        by_cases k1_3 : x2 = 3
        · refine swIn hC (tgt := 71) 3 k1_3 dX6_ofDot_1 (by decide) (by decide) rfl (by decide) ?_
          refine lv_aload_n hC.1 hC.2.1 dX6_ofDot_71 rfl (lv_at hl 0 rfl) ?_
          refine gf (v := .ref (q 1)) hC fwX6 hKN hP 0 rfl rfl 0 (by decide) rfl wd_887 rfl dX6_ofDot_72 ?_
          refine lv_bipush (v := 26) hC.1 hC.2.1 dX6_ofDot_75 (by decide +kernel) ?_
          refine lv_iload_n hC.1 hC.2.1 dX6_ofDot_77 rfl (lv_at hl 1 rfl) ?_
          refine lv_iadd hC.1 hC.2.1 dX6_ofDot_78 ?_
          refine iald_k hC hKN hP 1 rfl (n := 124) (f := (v 0)) (26 + x1) (nE_add (rfl) (rfl)) (by omega) (by decide) dX6_ofDot_79 ?_
          have e_4 : fX6_ofDot v x1 x2 = (v 0) (26 + x1) := by delta fX6_ofDot; exact Eq.trans (if_neg k1_0) (Eq.trans (if_neg k1_1) (Eq.trans (if_neg k1_2) (Eq.trans (if_pos k1_3) rfl)))
          have hg : fX6_ofDot v x1 x2 = (v 0) (26 + x1) := by have e2 := congrArg (fun z => z) e_4; exact hg.trans e2
          exact eP_i hC (congrArg Value.int hg) dX6_ofDot_80
        · skip
          by_cases k1_4 : x2 = 4
          · refine swIn hC (tgt := 81) 4 k1_4 dX6_ofDot_1 (by decide) (by decide) rfl (by decide) ?_
            refine lv_aload_n hC.1 hC.2.1 dX6_ofDot_81 rfl (lv_at hl 0 rfl) ?_
            refine gf (v := .ref (q 1)) hC fwX6 hKN hP 0 rfl rfl 0 (by decide) rfl wd_887 rfl dX6_ofDot_82 ?_
            refine lv_bipush (v := 50) hC.1 hC.2.1 dX6_ofDot_85 (by decide +kernel) ?_
            refine lv_iload_n hC.1 hC.2.1 dX6_ofDot_87 rfl (lv_at hl 1 rfl) ?_
            refine lv_iadd hC.1 hC.2.1 dX6_ofDot_88 ?_
            refine iald_k hC hKN hP 1 rfl (n := 124) (f := (v 0)) (50 + x1) (nE_add (rfl) (rfl)) (by omega) (by decide) dX6_ofDot_89 ?_
            have e_5 : fX6_ofDot v x1 x2 = (v 0) (50 + x1) := by delta fX6_ofDot; exact Eq.trans (if_neg k1_0) (Eq.trans (if_neg k1_1) (Eq.trans (if_neg k1_2) (Eq.trans (if_neg k1_3) (Eq.trans (if_pos k1_4) rfl))))
            have hg : fX6_ofDot v x1 x2 = (v 0) (50 + x1) := by have e2 := congrArg (fun z => z) e_5; exact hg.trans e2
            exact eP_i hC (congrArg Value.int hg) dX6_ofDot_90
          · skip
            by_cases k1_5 : x2 = 5
            · refine swIn hC (tgt := 91) 5 k1_5 dX6_ofDot_1 (by decide) (by decide) rfl (by decide) ?_
              refine lv_aload_n hC.1 hC.2.1 dX6_ofDot_91 rfl (lv_at hl 0 rfl) ?_
              refine lv_iconst (v := 1) hC.1 hC.2.1 dX6_ofDot_92 (by decide) ?_
              refine lv_iload_n hC.1 hC.2.1 dX6_ofDot_93 rfl (lv_at hl 1 rfl) ?_
              refine lv_ishl hC.1 hC.2.1 dX6_ofDot_94 ?_
              refine lv_iload_n hC.1 hC.2.1 dX6_ofDot_95 rfl (lv_at hl 1 rfl) ?_
              refine runP (rV (B := fun U H => PW G (mdW G q v hs) H) (As := [.int (1 <<< ((nI x1) &&& 31)), .int (nI x1)]) (rest := []) hC mwX6_pulse (c_X6_pulse l G q v hs (1 <<< ((nI x1) &&& 31)) (nI x1)) iwX6_pulse wd_1003 ⟨rfl, rfl⟩ ⟨Nat.le_of_ble_eq_true rfl, Nat.le_of_ble_eq_true rfl⟩ (stb_h (fun H => PW G (mdW G q v hs) H)) hKN hP (va_recv hKN.k hP (ci := 6) (q0 := 0) rfl rfl) rfl hl.1 rfl (Nat.le_of_ble_eq_true rfl) dX6_ofDot_96 ⟨Nat.zero_le _, Nat.zero_le _⟩) ?_
              have e_6 : fX6_ofDot v x1 x2 = fX6_pulse v (1 <<< ((nI x1) &&& 31)) (nI x1) := by delta fX6_ofDot; exact Eq.trans (if_neg k1_0) (Eq.trans (if_neg k1_1) (Eq.trans (if_neg k1_2) (Eq.trans (if_neg k1_3) (Eq.trans (if_neg k1_4) (Eq.trans (if_pos k1_5) rfl)))))
              have hg : fX6_ofDot v x1 x2 = fX6_pulse v (1 <<< ((nI x1) &&& 31)) (nI x1) := by have e2 := congrArg (fun z => z) e_6; exact hg.trans e2
              exact eP_i hC (congrArg Value.int hg) dX6_ofDot_99
            · skip
              refine lv_tableOut (tgt := 100) hC.1 hC.2.1 dX6_ofDot_1 (sw_out 0 5 (by decide) (fun k h1 h2 => by match k, h1, h2 with  | 0, _, _ => exact k1_0 | 1, _, _ => exact k1_1 | 2, _, _ => exact k1_2 | 3, _, _ => exact k1_3 | 4, _, _ => exact k1_4 | 5, _, _ => exact k1_5 | k + 6, _, h => exact absurd h (by omega))) (by decide) ?_
              refine lv_aload_n hC.1 hC.2.1 dX6_ofDot_100 rfl (lv_at hl 0 rfl) ?_
              refine lv_iload_n hC.1 hC.2.1 dX6_ofDot_101 rfl (lv_at hl 1 rfl) ?_
              refine runP (rV (B := fun U H => PW G (mdW G q v hs) H) (As := [.int (nI x1)]) (rest := []) hC mwX6_waitOf (c_X6_waitOf l G q v hs x1 hI hx) iwX6_waitOf wd_1138 ⟨rfl, rfl⟩ ⟨Nat.le_of_ble_eq_true rfl, Nat.le_of_ble_eq_true rfl⟩ (stb_h (fun H => PW G (mdW G q v hs) H)) hKN hP (va_recv hKN.k hP (ci := 6) (q0 := 0) rfl rfl) rfl hl.1 rfl (Nat.le_of_ble_eq_true rfl) dX6_ofDot_102 ⟨Nat.zero_le _, Nat.zero_le _⟩) ?_
              have e_7 : fX6_ofDot v x1 x2 = fX6_waitOf v x1 := by delta fX6_ofDot; exact Eq.trans (if_neg k1_0) (Eq.trans (if_neg k1_1) (Eq.trans (if_neg k1_2) (Eq.trans (if_neg k1_3) (Eq.trans (if_neg k1_4) (Eq.trans (if_neg k1_5) rfl)))))
              have hg : fX6_ofDot v x1 x2 = fX6_waitOf v x1 := by have e2 := congrArg (fun z => z) e_7; exact hg.trans e2
              exact eP_i hC (congrArg Value.int hg) dX6_ofDot_105

theorem dX6_dot_0 : decode cX6_dot 0 = .ok (.aload_n 0, 1) := by decide +kernel
theorem dX6_dot_1 : decode cX6_dot 1 = .ok (.iconst 0, 1) := by decide +kernel
theorem dX6_dot_2 : decode cX6_dot 2 = .ok (.putfield 34, 3) := by decide +kernel
theorem dX6_dot_5 : decode cX6_dot 5 = .ok (.iload_n 1, 1) := by decide +kernel
theorem dX6_dot_6 : decode cX6_dot 6 = .ok (.iconst 0, 1) := by decide +kernel
theorem dX6_dot_7 : decode cX6_dot 7 = .ok (.bipush 23, 2) := by decide +kernel
theorem dX6_dot_9 : decode cX6_dot 9 = .ok (.invokestatic 39, 3) := by decide +kernel
theorem dX6_dot_12 : decode cX6_dot 12 = .ok (.ifCond .ne 9, 3) := by decide +kernel
theorem dX6_dot_15 : decode cX6_dot 15 = .ok (.aload_n 0, 1) := by decide +kernel
theorem dX6_dot_16 : decode cX6_dot 16 = .ok (.iconst 1, 1) := by decide +kernel
theorem dX6_dot_17 : decode cX6_dot 17 = .ok (.invokevirtual 46, 3) := by decide +kernel
theorem dX6_dot_20 : decode cX6_dot 20 = .ok (.ireturn, 1) := by decide +kernel
theorem dX6_dot_21 : decode cX6_dot 21 = .ok (.iload_n 2, 1) := by decide +kernel
theorem dX6_dot_22 : decode cX6_dot 22 = .ok (.iconst 0, 1) := by decide +kernel
theorem dX6_dot_23 : decode cX6_dot 23 = .ok (.bipush 6, 2) := by decide +kernel
theorem dX6_dot_25 : decode cX6_dot 25 = .ok (.invokestatic 39, 3) := by decide +kernel
theorem dX6_dot_28 : decode cX6_dot 28 = .ok (.ifCond .eq 12, 3) := by decide +kernel
theorem dX6_dot_31 : decode cX6_dot 31 = .ok (.aload_n 0, 1) := by decide +kernel
theorem dX6_dot_32 : decode cX6_dot 32 = .ok (.iload_n 1, 1) := by decide +kernel
theorem dX6_dot_33 : decode cX6_dot 33 = .ok (.iload_n 2, 1) := by decide +kernel
theorem dX6_dot_34 : decode cX6_dot 34 = .ok (.invokevirtual 180, 3) := by decide +kernel
theorem dX6_dot_37 : decode cX6_dot 37 = .ok (.goto 8, 3) := by decide +kernel
theorem dX6_dot_40 : decode cX6_dot 40 = .ok (.aload_n 0, 1) := by decide +kernel
theorem dX6_dot_41 : decode cX6_dot 41 = .ok (.iconst 2, 1) := by decide +kernel
theorem dX6_dot_42 : decode cX6_dot 42 = .ok (.invokevirtual 46, 3) := by decide +kernel
theorem dX6_dot_45 : decode cX6_dot 45 = .ok (.ireturn, 1) := by decide +kernel
set_option maxHeartbeats 1000000 in
set_option maxRecDepth 100000 in
theorem c_X6_dot (l : Launch) (G : GT) (q : Nat → Nat) (v : SV) (hs : Int64) (x1 : Int32) (x2 : Int32) (hq : mdD G q) (hI : SI (v 0)) : Met l yX6_dot (Cond.code yX6_dot cX6_dot 3 (some .int) :: bigW) ({ frames := 6, cells := 0, slots := 0, locals := 135 }) (BP G [.ref (q 0), .int x1, .int x2] (fun U H => PW G (mdW G q v hs) H)) (QE (some (.int (fX6_dot v x1 x2).2)) (fun H => PW G (mdW G q (fX6_dot v x1 x2).1 hs) H) (mdA q)) 0 0 (mdA q) := by
  refine met_of (by decide) (Nat.le_of_ble_eq_true rfl) ?_
  intro p e s m below meth c ls hC hKN hB0 hl
  have hP := hB0
  have hl : lv_has ls 3 [(0, .ref (q 0)), (1, .int x1), (2, .int x2)] := hl
  have hS : va_S (mdA q) s.heap s.heap [] := va_S.rf
  have hAL : ∀ a, (mdA q) a → gL G ≤ a := mdD_low hq
  have hg : fX6_dot v x1 x2 = fX6_dot v x1 x2 := rfl
  refine lv_aload_n hC.1 hC.2.1 dX6_dot_0 rfl (lv_at hl 0 rfl) ?_
  refine lv_iconst (v := 0) hC.1 hC.2.1 dX6_dot_1 (by decide) ?_
  refine pf (v := .int 0) (tv := .int) hC fwX6 hKN hP (mdD_D hq v hs) hS 0 rfl rfl 6 (by decide) rfl wd_893 rfl rfl rfl (Nat.le_of_ble_eq_true rfl) dX6_dot_2 (fun H locs hq_1 hS => ?_)
  have hP : PW G (mdW G q (mkM (v 0) (v 1) (v 2) (v 3) (v 4) (v 5) (v 6) (v 7) (v 8 0) (v 8 1) 0 (v 8 3) (v 8 4) (v 8 5) (v 8 6) (v 8 7) (v 8 8)) hs) H := hq_1
  have hI : SI ((mkM (v 0) (v 1) (v 2) (v 3) (v 4) (v 5) (v 6) (v 7) (v 8 0) (v 8 1) 0 (v 8 3) (v 8 4) (v 8 5) (v 8 6) (v 8 7) (v 8 8)) 0) := hI
  refine lv_iload_n hC.1 hC.2.1 dX6_dot_5 rfl (lv_at hl 1 rfl) ?_
  refine lv_iconst (v := 0) hC.1 hC.2.1 dX6_dot_6 (by decide) ?_
  refine lv_bipush (v := 23) hC.1 hC.2.1 dX6_dot_7 (by decide +kernel) ?_
  refine runP (rS (B := fun U H => True) (As := [.int x1, .int 0, .int 23]) (rest := []) hC mwX6_in (c_X6_in l G x1 0 23) wd_975 wd_974 ⟨rfl, rfl⟩ ⟨Nat.le_of_ble_eq_true rfl, Nat.le_of_ble_eq_true rfl⟩ (fun _ _ _ _ h => h) (hKN.go hAL hS) trivial rfl hl.1 rfl (Nat.le_of_ble_eq_true rfl) dX6_dot_9 ⟨Nat.zero_le _, Nat.zero_le _⟩) ?_
  refine lv_if_ne (tgt := 21) hC.1 hC.2.1 dX6_dot_12 (by decide) (fun k12 => ?_) (fun k12 => ?_)
  · refine lv_iload_n hC.1 hC.2.1 dX6_dot_21 rfl (lv_at hl 2 rfl) ?_
    refine lv_iconst (v := 0) hC.1 hC.2.1 dX6_dot_22 (by decide) ?_
    refine lv_bipush (v := 6) hC.1 hC.2.1 dX6_dot_23 (by decide +kernel) ?_
    refine runP (rS (B := fun U H => True) (As := [.int x2, .int 0, .int 6]) (rest := []) hC mwX6_in (c_X6_in l G x2 0 6) wd_975 wd_974 ⟨rfl, rfl⟩ ⟨Nat.le_of_ble_eq_true rfl, Nat.le_of_ble_eq_true rfl⟩ (fun _ _ _ _ h => h) (hKN.go hAL hS) trivial rfl hl.1 rfl (Nat.le_of_ble_eq_true rfl) dX6_dot_25 ⟨Nat.zero_le _, Nat.zero_le _⟩) ?_
    refine lv_if_eq (tgt := 40) hC.1 hC.2.1 dX6_dot_28 (by decide) (fun k28 => ?_) (fun k28 => ?_)
    · refine lv_aload_n hC.1 hC.2.1 dX6_dot_40 rfl (lv_at hl 0 rfl) ?_
      refine lv_iconst (v := 2) hC.1 hC.2.1 dX6_dot_41 (by decide) ?_
      refine runE (rV (B := fun U H => PW G (mdW G q (mkM (v 0) (v 1) (v 2) (v 3) (v 4) (v 5) (v 6) (v 7) (v 8 0) (v 8 1) 0 (v 8 3) (v 8 4) (v 8 5) (v 8 6) (v 8 7) (v 8 8)) hs) H) (As := [.int 2]) (rest := []) hC mwX6_fails (c_X6_fails l G q (mkM (v 0) (v 1) (v 2) (v 3) (v 4) (v 5) (v 6) (v 7) (v 8 0) (v 8 1) 0 (v 8 3) (v 8 4) (v 8 5) (v 8 6) (v 8 7) (v 8 8)) hs 2 hq) iwX6_fails wd_950 ⟨rfl, rfl⟩ ⟨Nat.le_of_ble_eq_true rfl, Nat.le_of_ble_eq_true rfl⟩ (stb_h (fun H => PW G (mdW G q (mkM (v 0) (v 1) (v 2) (v 3) (v 4) (v 5) (v 6) (v 7) (v 8 0) (v 8 1) 0 (v 8 3) (v 8 4) (v 8 5) (v 8 6) (v 8 7) (v 8 8)) hs) H)) (hKN.go hAL hS) hP (va_recv (hKN.go hAL hS).k hP (ci := 6) (q0 := 0) rfl rfl) rfl hl.1 rfl (Nat.le_of_ble_eq_true rfl) dX6_dot_42 ⟨Nat.zero_le _, Nat.zero_le _⟩) hS (fun _ h => h) (fun _ h => h) (fun H locs hq_2 _ _ hS => ?_)
      have hP : PW G (mdW G q ((fX6_fails (mkM (v 0) (v 1) (v 2) (v 3) (v 4) (v 5) (v 6) (v 7) (v 8 0) (v 8 1) 0 (v 8 3) (v 8 4) (v 8 5) (v 8 6) (v 8 7) (v 8 8)) 2).1) hs) H := hq_2
      obtain ⟨r_3, er_3⟩ : ∃ z, z = fX6_fails (mkM (v 0) (v 1) (v 2) (v 3) (v 4) (v 5) (v 6) (v 7) (v 8 0) (v 8 1) 0 (v 8 3) (v 8 4) (v 8 5) (v 8 6) (v 8 7) (v 8 8)) 2 := ⟨_, rfl⟩
      rw [← er_3] at hP
      show W p l e ({ frames := 6, cells := 0, slots := 0, locals := 135 }) s m ([.ref (q 0), .int x1, .int x2] : List Value).toArray below meth c H locs (0 + 0) (0 + 0) _ (F0 m (42 + 3) ls [.int ((fX6_fails (mkM (v 0) (v 1) (v 2) (v 3) (v 4) (v 5) (v 6) (v 7) (v 8 0) (v 8 1) 0 (v 8 3) (v 8 4) (v 8 5) (v 8 6) (v 8 7) (v 8 8)) 2).2)])
      rw [← er_3]
      have hI : True := trivial
      have e_4 : fX6_dot v x1 x2 = (r_3.1, r_3.2) := by have q_ := er_3.symm; subst q_; delta fX6_dot; exact Eq.trans (if_neg k12) (Eq.trans (if_pos k28) rfl)
      have hg : fX6_dot v x1 x2 = (r_3.1, r_3.2) := by have e2 := congrArg (fun z => z) e_4; exact hg.trans e2
      exact eE_i hC (by rw [hg]) (by show PW G (mdW G q (fX6_dot v x1 x2).1 hs) H; rw [hg]; exact hP) hS dX6_dot_45
    · refine lv_aload_n hC.1 hC.2.1 dX6_dot_31 rfl (lv_at hl 0 rfl) ?_
      refine lv_iload_n hC.1 hC.2.1 dX6_dot_32 rfl (lv_at hl 1 rfl) ?_
      refine lv_topi (fun w_5 ew_5 => ?_)
      rw [show w_5 = nI x1.toNatClampNeg from ew_5.trans (lq (in_nat (b := 23) (by omega) k12))]
      refine lv_iload_n hC.1 hC.2.1 dX6_dot_33 rfl (lv_at hl 2 rfl) ?_
      refine runP (rV (B := fun U H => PW G (mdW G q (mkM (v 0) (v 1) (v 2) (v 3) (v 4) (v 5) (v 6) (v 7) (v 8 0) (v 8 1) 0 (v 8 3) (v 8 4) (v 8 5) (v 8 6) (v 8 7) (v 8 8)) hs) H) (As := [.int (nI x1.toNatClampNeg), .int x2]) (rest := []) hC mwX6_ofDot (c_X6_ofDot l G q (mkM (v 0) (v 1) (v 2) (v 3) (v 4) (v 5) (v 6) (v 7) (v 8 0) (v 8 1) 0 (v 8 3) (v 8 4) (v 8 5) (v 8 6) (v 8 7) (v 8 8)) hs x1.toNatClampNeg x2 hI (by have := (in_nat (b := 23) (by omega) k12).2; omega)) iwX6_ofDot wd_1134 ⟨rfl, rfl⟩ ⟨Nat.le_of_ble_eq_true rfl, Nat.le_of_ble_eq_true rfl⟩ (stb_h (fun H => PW G (mdW G q (mkM (v 0) (v 1) (v 2) (v 3) (v 4) (v 5) (v 6) (v 7) (v 8 0) (v 8 1) 0 (v 8 3) (v 8 4) (v 8 5) (v 8 6) (v 8 7) (v 8 8)) hs) H)) (hKN.go hAL hS) hP (va_recv (hKN.go hAL hS).k hP (ci := 6) (q0 := 0) rfl rfl) rfl hl.1 rfl (Nat.le_of_ble_eq_true rfl) dX6_dot_34 ⟨Nat.zero_le _, Nat.zero_le _⟩) ?_
      refine lv_goto (tgt := 45) hC.1 hC.2.1 dX6_dot_37 (by decide) ?_
      have e_6 : fX6_dot v x1 x2 = (mkM (v 0) (v 1) (v 2) (v 3) (v 4) (v 5) (v 6) (v 7) (v 8 0) (v 8 1) 0 (v 8 3) (v 8 4) (v 8 5) (v 8 6) (v 8 7) (v 8 8), fX6_ofDot (mkM (v 0) (v 1) (v 2) (v 3) (v 4) (v 5) (v 6) (v 7) (v 8 0) (v 8 1) 0 (v 8 3) (v 8 4) (v 8 5) (v 8 6) (v 8 7) (v 8 8)) x1.toNatClampNeg x2) := by delta fX6_dot; exact Eq.trans (if_neg k12) (Eq.trans (if_neg k28) rfl)
      have hg : fX6_dot v x1 x2 = (mkM (v 0) (v 1) (v 2) (v 3) (v 4) (v 5) (v 6) (v 7) (v 8 0) (v 8 1) 0 (v 8 3) (v 8 4) (v 8 5) (v 8 6) (v 8 7) (v 8 8), fX6_ofDot (mkM (v 0) (v 1) (v 2) (v 3) (v 4) (v 5) (v 6) (v 7) (v 8 0) (v 8 1) 0 (v 8 3) (v 8 4) (v 8 5) (v 8 6) (v 8 7) (v 8 8)) x1.toNatClampNeg x2) := by have e2 := congrArg (fun z => z) e_6; exact hg.trans e2
      exact eE_i hC (by rw [hg]) (by show PW G (mdW G q (fX6_dot v x1 x2).1 hs) H; rw [hg]; exact hP) hS dX6_dot_45
  · refine lv_aload_n hC.1 hC.2.1 dX6_dot_15 rfl (lv_at hl 0 rfl) ?_
    refine lv_iconst (v := 1) hC.1 hC.2.1 dX6_dot_16 (by decide) ?_
    refine runE (rV (B := fun U H => PW G (mdW G q (mkM (v 0) (v 1) (v 2) (v 3) (v 4) (v 5) (v 6) (v 7) (v 8 0) (v 8 1) 0 (v 8 3) (v 8 4) (v 8 5) (v 8 6) (v 8 7) (v 8 8)) hs) H) (As := [.int 1]) (rest := []) hC mwX6_fails (c_X6_fails l G q (mkM (v 0) (v 1) (v 2) (v 3) (v 4) (v 5) (v 6) (v 7) (v 8 0) (v 8 1) 0 (v 8 3) (v 8 4) (v 8 5) (v 8 6) (v 8 7) (v 8 8)) hs 1 hq) iwX6_fails wd_950 ⟨rfl, rfl⟩ ⟨Nat.le_of_ble_eq_true rfl, Nat.le_of_ble_eq_true rfl⟩ (stb_h (fun H => PW G (mdW G q (mkM (v 0) (v 1) (v 2) (v 3) (v 4) (v 5) (v 6) (v 7) (v 8 0) (v 8 1) 0 (v 8 3) (v 8 4) (v 8 5) (v 8 6) (v 8 7) (v 8 8)) hs) H)) (hKN.go hAL hS) hP (va_recv (hKN.go hAL hS).k hP (ci := 6) (q0 := 0) rfl rfl) rfl hl.1 rfl (Nat.le_of_ble_eq_true rfl) dX6_dot_17 ⟨Nat.zero_le _, Nat.zero_le _⟩) hS (fun _ h => h) (fun _ h => h) (fun H locs hq_7 _ _ hS => ?_)
    have hP : PW G (mdW G q ((fX6_fails (mkM (v 0) (v 1) (v 2) (v 3) (v 4) (v 5) (v 6) (v 7) (v 8 0) (v 8 1) 0 (v 8 3) (v 8 4) (v 8 5) (v 8 6) (v 8 7) (v 8 8)) 1).1) hs) H := hq_7
    obtain ⟨r_8, er_8⟩ : ∃ z, z = fX6_fails (mkM (v 0) (v 1) (v 2) (v 3) (v 4) (v 5) (v 6) (v 7) (v 8 0) (v 8 1) 0 (v 8 3) (v 8 4) (v 8 5) (v 8 6) (v 8 7) (v 8 8)) 1 := ⟨_, rfl⟩
    rw [← er_8] at hP
    show W p l e ({ frames := 6, cells := 0, slots := 0, locals := 135 }) s m ([.ref (q 0), .int x1, .int x2] : List Value).toArray below meth c H locs (0 + 0) (0 + 0) _ (F0 m (17 + 3) ls [.int ((fX6_fails (mkM (v 0) (v 1) (v 2) (v 3) (v 4) (v 5) (v 6) (v 7) (v 8 0) (v 8 1) 0 (v 8 3) (v 8 4) (v 8 5) (v 8 6) (v 8 7) (v 8 8)) 1).2)])
    rw [← er_8]
    have hI : True := trivial
    have e_9 : fX6_dot v x1 x2 = (r_8.1, r_8.2) := by have q_ := er_8.symm; subst q_; delta fX6_dot; exact Eq.trans (if_pos k12) rfl
    have hg : fX6_dot v x1 x2 = (r_8.1, r_8.2) := by have e2 := congrArg (fun z => z) e_9; exact hg.trans e2
    exact eE_i hC (by rw [hg]) (by show PW G (mdW G q (fX6_dot v x1 x2).1 hs) H; rw [hg]; exact hP) hS dX6_dot_20

theorem dX6_kept_0 : decode cX6_kept 0 = .ok (.aload_n 0, 1) := by decide +kernel
theorem dX6_kept_1 : decode cX6_kept 1 = .ok (.iconst 0, 1) := by decide +kernel
theorem dX6_kept_2 : decode cX6_kept 2 = .ok (.putfield 34, 3) := by decide +kernel
theorem dX6_kept_5 : decode cX6_kept 5 = .ok (.iload_n 1, 1) := by decide +kernel
theorem dX6_kept_6 : decode cX6_kept 6 = .ok (.iconst 0, 1) := by decide +kernel
theorem dX6_kept_7 : decode cX6_kept 7 = .ok (.bipush 11, 2) := by decide +kernel
theorem dX6_kept_9 : decode cX6_kept 9 = .ok (.invokestatic 39, 3) := by decide +kernel
theorem dX6_kept_12 : decode cX6_kept 12 = .ok (.ifCond .eq 12, 3) := by decide +kernel
theorem dX6_kept_15 : decode cX6_kept 15 = .ok (.iload_n 2, 1) := by decide +kernel
theorem dX6_kept_16 : decode cX6_kept 16 = .ok (.iconst 0, 1) := by decide +kernel
theorem dX6_kept_17 : decode cX6_kept 17 = .ok (.iconst 2, 1) := by decide +kernel
theorem dX6_kept_18 : decode cX6_kept 18 = .ok (.invokestatic 39, 3) := by decide +kernel
theorem dX6_kept_21 : decode cX6_kept 21 = .ok (.ifCond .ne 9, 3) := by decide +kernel
theorem dX6_kept_24 : decode cX6_kept 24 = .ok (.aload_n 0, 1) := by decide +kernel
theorem dX6_kept_25 : decode cX6_kept 25 = .ok (.iconst 1, 1) := by decide +kernel
theorem dX6_kept_26 : decode cX6_kept 26 = .ok (.invokevirtual 46, 3) := by decide +kernel
theorem dX6_kept_29 : decode cX6_kept 29 = .ok (.ireturn, 1) := by decide +kernel
theorem dX6_kept_30 : decode cX6_kept 30 = .ok (.iload_n 1, 1) := by decide +kernel
theorem dX6_kept_31 : decode cX6_kept 31 = .ok (.aload_n 0, 1) := by decide +kernel
theorem dX6_kept_32 : decode cX6_kept 32 = .ok (.getfield 7, 3) := by decide +kernel
theorem dX6_kept_35 : decode cX6_kept 35 = .ok (.bipush 87, 2) := by decide +kernel
theorem dX6_kept_37 : decode cX6_kept 37 = .ok (.iaload, 1) := by decide +kernel
theorem dX6_kept_38 : decode cX6_kept 38 = .ok (.if_icmp .ge 19, 3) := by decide +kernel
theorem dX6_kept_41 : decode cX6_kept 41 = .ok (.aload_n 0, 1) := by decide +kernel
theorem dX6_kept_42 : decode cX6_kept 42 = .ok (.getfield 7, 3) := by decide +kernel
theorem dX6_kept_45 : decode cX6_kept 45 = .ok (.bipush 88, 2) := by decide +kernel
theorem dX6_kept_47 : decode cX6_kept 47 = .ok (.iconst 3, 1) := by decide +kernel
theorem dX6_kept_48 : decode cX6_kept 48 = .ok (.iload_n 1, 1) := by decide +kernel
theorem dX6_kept_49 : decode cX6_kept 49 = .ok (.imul, 1) := by decide +kernel
theorem dX6_kept_50 : decode cX6_kept 50 = .ok (.iadd, 1) := by decide +kernel
theorem dX6_kept_51 : decode cX6_kept 51 = .ok (.iload_n 2, 1) := by decide +kernel
theorem dX6_kept_52 : decode cX6_kept 52 = .ok (.iadd, 1) := by decide +kernel
theorem dX6_kept_53 : decode cX6_kept 53 = .ok (.iaload, 1) := by decide +kernel
theorem dX6_kept_54 : decode cX6_kept 54 = .ok (.goto 4, 3) := by decide +kernel
theorem dX6_kept_57 : decode cX6_kept 57 = .ok (.iconst (-1), 1) := by decide +kernel
theorem dX6_kept_58 : decode cX6_kept 58 = .ok (.ireturn, 1) := by decide +kernel
set_option maxHeartbeats 1000000 in
set_option maxRecDepth 100000 in
theorem c_X6_kept (l : Launch) (G : GT) (q : Nat → Nat) (v : SV) (hs : Int64) (x1 : Int32) (x2 : Int32) (hq : mdD G q) (hI : le_n ((v 0) 87) 12) : Met l yX6_kept (Cond.code yX6_kept cX6_kept 3 (some .int) :: bigW) ({ frames := 1, cells := 0, slots := 0, locals := 22 }) (BP G [.ref (q 0), .int x1, .int x2] (fun U H => PW G (mdW G q v hs) H)) (QE (some (.int (fX6_kept v x1 x2).2)) (fun H => PW G (mdW G q (fX6_kept v x1 x2).1 hs) H) (mdA q)) 0 0 (mdA q) := by
  refine met_of (by decide) (Nat.le_of_ble_eq_true rfl) ?_
  intro p e s m below meth c ls hC hKN hB0 hl
  have hP := hB0
  have hl : lv_has ls 3 [(0, .ref (q 0)), (1, .int x1), (2, .int x2)] := hl
  have hS : va_S (mdA q) s.heap s.heap [] := va_S.rf
  have hAL : ∀ a, (mdA q) a → gL G ≤ a := mdD_low hq
  have hg : fX6_kept v x1 x2 = fX6_kept v x1 x2 := rfl
  refine lv_aload_n hC.1 hC.2.1 dX6_kept_0 rfl (lv_at hl 0 rfl) ?_
  refine lv_iconst (v := 0) hC.1 hC.2.1 dX6_kept_1 (by decide) ?_
  refine pf (v := .int 0) (tv := .int) hC fwX6 hKN hP (mdD_D hq v hs) hS 0 rfl rfl 6 (by decide) rfl wd_893 rfl rfl rfl (Nat.le_of_ble_eq_true rfl) dX6_kept_2 (fun H locs hq_1 hS => ?_)
  have hP : PW G (mdW G q (mkM (v 0) (v 1) (v 2) (v 3) (v 4) (v 5) (v 6) (v 7) (v 8 0) (v 8 1) 0 (v 8 3) (v 8 4) (v 8 5) (v 8 6) (v 8 7) (v 8 8)) hs) H := hq_1
  have hI : le_n (((mkM (v 0) (v 1) (v 2) (v 3) (v 4) (v 5) (v 6) (v 7) (v 8 0) (v 8 1) 0 (v 8 3) (v 8 4) (v 8 5) (v 8 6) (v 8 7) (v 8 8)) 0) 87) 12 := hI
  refine lv_iload_n hC.1 hC.2.1 dX6_kept_5 rfl (lv_at hl 1 rfl) ?_
  refine lv_iconst (v := 0) hC.1 hC.2.1 dX6_kept_6 (by decide) ?_
  refine lv_bipush (v := 11) hC.1 hC.2.1 dX6_kept_7 (by decide +kernel) ?_
  refine runP (rS (B := fun U H => True) (As := [.int x1, .int 0, .int 11]) (rest := []) hC mwX6_in (c_X6_in l G x1 0 11) wd_975 wd_974 ⟨rfl, rfl⟩ ⟨Nat.le_of_ble_eq_true rfl, Nat.le_of_ble_eq_true rfl⟩ (fun _ _ _ _ h => h) (hKN.go hAL hS) trivial rfl hl.1 rfl (Nat.le_of_ble_eq_true rfl) dX6_kept_9 ⟨Nat.zero_le _, Nat.zero_le _⟩) ?_
  refine lv_if_eq (tgt := 24) hC.1 hC.2.1 dX6_kept_12 (by decide) (fun k12 => ?_) (fun k12 => ?_)
  · refine lv_aload_n hC.1 hC.2.1 dX6_kept_24 rfl (lv_at hl 0 rfl) ?_
    refine lv_iconst (v := 1) hC.1 hC.2.1 dX6_kept_25 (by decide) ?_
    refine runE (rV (B := fun U H => PW G (mdW G q (mkM (v 0) (v 1) (v 2) (v 3) (v 4) (v 5) (v 6) (v 7) (v 8 0) (v 8 1) 0 (v 8 3) (v 8 4) (v 8 5) (v 8 6) (v 8 7) (v 8 8)) hs) H) (As := [.int 1]) (rest := []) hC mwX6_fails (c_X6_fails l G q (mkM (v 0) (v 1) (v 2) (v 3) (v 4) (v 5) (v 6) (v 7) (v 8 0) (v 8 1) 0 (v 8 3) (v 8 4) (v 8 5) (v 8 6) (v 8 7) (v 8 8)) hs 1 hq) iwX6_fails wd_950 ⟨rfl, rfl⟩ ⟨Nat.le_of_ble_eq_true rfl, Nat.le_of_ble_eq_true rfl⟩ (stb_h (fun H => PW G (mdW G q (mkM (v 0) (v 1) (v 2) (v 3) (v 4) (v 5) (v 6) (v 7) (v 8 0) (v 8 1) 0 (v 8 3) (v 8 4) (v 8 5) (v 8 6) (v 8 7) (v 8 8)) hs) H)) (hKN.go hAL hS) hP (va_recv (hKN.go hAL hS).k hP (ci := 6) (q0 := 0) rfl rfl) rfl hl.1 rfl (Nat.le_of_ble_eq_true rfl) dX6_kept_26 ⟨Nat.zero_le _, Nat.zero_le _⟩) hS (fun _ h => h) (fun _ h => h) (fun H locs hq_2 _ _ hS => ?_)
    have hP : PW G (mdW G q ((fX6_fails (mkM (v 0) (v 1) (v 2) (v 3) (v 4) (v 5) (v 6) (v 7) (v 8 0) (v 8 1) 0 (v 8 3) (v 8 4) (v 8 5) (v 8 6) (v 8 7) (v 8 8)) 1).1) hs) H := hq_2
    obtain ⟨r_3, er_3⟩ : ∃ z, z = fX6_fails (mkM (v 0) (v 1) (v 2) (v 3) (v 4) (v 5) (v 6) (v 7) (v 8 0) (v 8 1) 0 (v 8 3) (v 8 4) (v 8 5) (v 8 6) (v 8 7) (v 8 8)) 1 := ⟨_, rfl⟩
    rw [← er_3] at hP
    show W p l e ({ frames := 1, cells := 0, slots := 0, locals := 22 }) s m ([.ref (q 0), .int x1, .int x2] : List Value).toArray below meth c H locs (0 + 0) (0 + 0) _ (F0 m (26 + 3) ls [.int ((fX6_fails (mkM (v 0) (v 1) (v 2) (v 3) (v 4) (v 5) (v 6) (v 7) (v 8 0) (v 8 1) 0 (v 8 3) (v 8 4) (v 8 5) (v 8 6) (v 8 7) (v 8 8)) 1).2)])
    rw [← er_3]
    have hI : True := trivial
    have e_4 : fX6_kept v x1 x2 = (r_3.1, r_3.2) := by have q_ := er_3.symm; subst q_; delta fX6_kept; exact Eq.trans (if_pos k12) rfl
    have hg : fX6_kept v x1 x2 = (r_3.1, r_3.2) := by have e2 := congrArg (fun z => z) e_4; exact hg.trans e2
    exact eE_i hC (by rw [hg]) (by show PW G (mdW G q (fX6_kept v x1 x2).1 hs) H; rw [hg]; exact hP) hS dX6_kept_29
  · refine lv_iload_n hC.1 hC.2.1 dX6_kept_15 rfl (lv_at hl 2 rfl) ?_
    refine lv_iconst (v := 0) hC.1 hC.2.1 dX6_kept_16 (by decide) ?_
    refine lv_iconst (v := 2) hC.1 hC.2.1 dX6_kept_17 (by decide) ?_
    refine runP (rS (B := fun U H => True) (As := [.int x2, .int 0, .int 2]) (rest := []) hC mwX6_in (c_X6_in l G x2 0 2) wd_975 wd_974 ⟨rfl, rfl⟩ ⟨Nat.le_of_ble_eq_true rfl, Nat.le_of_ble_eq_true rfl⟩ (fun _ _ _ _ h => h) (hKN.go hAL hS) trivial rfl hl.1 rfl (Nat.le_of_ble_eq_true rfl) dX6_kept_18 ⟨Nat.zero_le _, Nat.zero_le _⟩) ?_
    refine lv_if_ne (tgt := 30) hC.1 hC.2.1 dX6_kept_21 (by decide) (fun k21 => ?_) (fun k21 => ?_)
    · refine lv_iload_n hC.1 hC.2.1 dX6_kept_30 rfl (lv_at hl 1 rfl) ?_
      refine lv_aload_n hC.1 hC.2.1 dX6_kept_31 rfl (lv_at hl 0 rfl) ?_
      refine gf (v := .ref (q 1)) hC fwX6 (hKN.go hAL hS) hP 0 rfl rfl 0 (by decide) rfl wd_887 rfl dX6_kept_32 ?_
      refine lv_bipush (v := 87) hC.1 hC.2.1 dX6_kept_35 (by decide +kernel) ?_
      refine iald_k hC (hKN.go hAL hS) hP 1 rfl (n := 124) (f := (v 0)) 87 (rfl) (by omega) (by decide) dX6_kept_37 ?_
      refine lv_icmp_ge (tgt := 57) hC.1 hC.2.1 dX6_kept_38 (by decide) (fun k38 => ?_) (fun k38 => ?_)
      · refine lv_iconst (v := (-1)) hC.1 hC.2.1 dX6_kept_57 (by decide) ?_
        have e_5 : fX6_kept v x1 x2 = (mkM (v 0) (v 1) (v 2) (v 3) (v 4) (v 5) (v 6) (v 7) (v 8 0) (v 8 1) 0 (v 8 3) (v 8 4) (v 8 5) (v 8 6) (v 8 7) (v 8 8), (-1)) := by delta fX6_kept; exact Eq.trans (if_neg k12) (Eq.trans (if_neg k21) (Eq.trans (if_pos k38) rfl))
        have hg : fX6_kept v x1 x2 = (mkM (v 0) (v 1) (v 2) (v 3) (v 4) (v 5) (v 6) (v 7) (v 8 0) (v 8 1) 0 (v 8 3) (v 8 4) (v 8 5) (v 8 6) (v 8 7) (v 8 8), (-1)) := by have e2 := congrArg (fun z => z) e_5; exact hg.trans e2
        exact eE_i hC (by rw [hg]) (by show PW G (mdW G q (fX6_kept v x1 x2).1 hs) H; rw [hg]; exact hP) hS dX6_kept_58
      · refine lv_aload_n hC.1 hC.2.1 dX6_kept_41 rfl (lv_at hl 0 rfl) ?_
        refine gf (v := .ref (q 1)) hC fwX6 (hKN.go hAL hS) hP 0 rfl rfl 0 (by decide) rfl wd_887 rfl dX6_kept_42 ?_
        refine lv_bipush (v := 88) hC.1 hC.2.1 dX6_kept_45 (by decide +kernel) ?_
        refine lv_iconst (v := 3) hC.1 hC.2.1 dX6_kept_47 (by decide) ?_
        refine lv_iload_n hC.1 hC.2.1 dX6_kept_48 rfl (lv_at hl 1 rfl) ?_
        refine lv_topi (fun w_6 ew_6 => ?_)
        rw [show w_6 = nI x1.toNatClampNeg from ew_6.trans (lq (in_nat (b := 11) (by omega) k12))]
        refine lv_imul hC.1 hC.2.1 dX6_kept_49 ?_
        refine lv_iadd hC.1 hC.2.1 dX6_kept_50 ?_
        refine lv_iload_n hC.1 hC.2.1 dX6_kept_51 rfl (lv_at hl 2 rfl) ?_
        refine lv_topi (fun w_7 ew_7 => ?_)
        rw [show w_7 = nI x2.toNatClampNeg from ew_7.trans (lq (in_nat (b := 2) (by omega) k21))]
        refine lv_iadd hC.1 hC.2.1 dX6_kept_52 ?_
        refine iald_k hC (hKN.go hAL hS) hP 1 rfl (n := 124) (f := (v 0)) ((88 + (3 * x1.toNatClampNeg)) + x2.toNatClampNeg) (nE_add (nE_add (rfl) (nE_mul (rfl) (rfl))) (rfl)) (by have := (in_nat (b := 11) (by omega) k12).2; have := (in_nat (b := 2) (by omega) k21).2; omega) (by decide) dX6_kept_53 ?_
        refine lv_goto (tgt := 58) hC.1 hC.2.1 dX6_kept_54 (by decide) ?_
        have e_8 : fX6_kept v x1 x2 = (mkM (v 0) (v 1) (v 2) (v 3) (v 4) (v 5) (v 6) (v 7) (v 8 0) (v 8 1) 0 (v 8 3) (v 8 4) (v 8 5) (v 8 6) (v 8 7) (v 8 8), (v 0) ((88 + (3 * x1.toNatClampNeg)) + x2.toNatClampNeg)) := by delta fX6_kept; exact Eq.trans (if_neg k12) (Eq.trans (if_neg k21) (Eq.trans (if_neg k38) rfl))
        have hg : fX6_kept v x1 x2 = (mkM (v 0) (v 1) (v 2) (v 3) (v 4) (v 5) (v 6) (v 7) (v 8 0) (v 8 1) 0 (v 8 3) (v 8 4) (v 8 5) (v 8 6) (v 8 7) (v 8 8), (v 0) ((88 + (3 * x1.toNatClampNeg)) + x2.toNatClampNeg)) := by have e2 := congrArg (fun z => z) e_8; exact hg.trans e2
        exact eE_i hC (by rw [hg]) (by show PW G (mdW G q (fX6_kept v x1 x2).1 hs) H; rw [hg]; exact hP) hS dX6_kept_58
    · refine lv_aload_n hC.1 hC.2.1 dX6_kept_24 rfl (lv_at hl 0 rfl) ?_
      refine lv_iconst (v := 1) hC.1 hC.2.1 dX6_kept_25 (by decide) ?_
      refine runE (rV (B := fun U H => PW G (mdW G q (mkM (v 0) (v 1) (v 2) (v 3) (v 4) (v 5) (v 6) (v 7) (v 8 0) (v 8 1) 0 (v 8 3) (v 8 4) (v 8 5) (v 8 6) (v 8 7) (v 8 8)) hs) H) (As := [.int 1]) (rest := []) hC mwX6_fails (c_X6_fails l G q (mkM (v 0) (v 1) (v 2) (v 3) (v 4) (v 5) (v 6) (v 7) (v 8 0) (v 8 1) 0 (v 8 3) (v 8 4) (v 8 5) (v 8 6) (v 8 7) (v 8 8)) hs 1 hq) iwX6_fails wd_950 ⟨rfl, rfl⟩ ⟨Nat.le_of_ble_eq_true rfl, Nat.le_of_ble_eq_true rfl⟩ (stb_h (fun H => PW G (mdW G q (mkM (v 0) (v 1) (v 2) (v 3) (v 4) (v 5) (v 6) (v 7) (v 8 0) (v 8 1) 0 (v 8 3) (v 8 4) (v 8 5) (v 8 6) (v 8 7) (v 8 8)) hs) H)) (hKN.go hAL hS) hP (va_recv (hKN.go hAL hS).k hP (ci := 6) (q0 := 0) rfl rfl) rfl hl.1 rfl (Nat.le_of_ble_eq_true rfl) dX6_kept_26 ⟨Nat.zero_le _, Nat.zero_le _⟩) hS (fun _ h => h) (fun _ h => h) (fun H locs hq_9 _ _ hS => ?_)
      have hP : PW G (mdW G q ((fX6_fails (mkM (v 0) (v 1) (v 2) (v 3) (v 4) (v 5) (v 6) (v 7) (v 8 0) (v 8 1) 0 (v 8 3) (v 8 4) (v 8 5) (v 8 6) (v 8 7) (v 8 8)) 1).1) hs) H := hq_9
      obtain ⟨r_10, er_10⟩ : ∃ z, z = fX6_fails (mkM (v 0) (v 1) (v 2) (v 3) (v 4) (v 5) (v 6) (v 7) (v 8 0) (v 8 1) 0 (v 8 3) (v 8 4) (v 8 5) (v 8 6) (v 8 7) (v 8 8)) 1 := ⟨_, rfl⟩
      rw [← er_10] at hP
      show W p l e ({ frames := 1, cells := 0, slots := 0, locals := 22 }) s m ([.ref (q 0), .int x1, .int x2] : List Value).toArray below meth c H locs (0 + 0) (0 + 0) _ (F0 m (26 + 3) ls [.int ((fX6_fails (mkM (v 0) (v 1) (v 2) (v 3) (v 4) (v 5) (v 6) (v 7) (v 8 0) (v 8 1) 0 (v 8 3) (v 8 4) (v 8 5) (v 8 6) (v 8 7) (v 8 8)) 1).2)])
      rw [← er_10]
      have hI : True := trivial
      have e_11 : fX6_kept v x1 x2 = (r_10.1, r_10.2) := by have q_ := er_10.symm; subst q_; delta fX6_kept; exact Eq.trans (if_neg k12) (Eq.trans (if_pos k21) rfl)
      have hg : fX6_kept v x1 x2 = (r_10.1, r_10.2) := by have e2 := congrArg (fun z => z) e_11; exact hg.trans e2
      exact eE_i hC (by rw [hg]) (by show PW G (mdW G q (fX6_kept v x1 x2).1 hs) H; rw [hg]; exact hP) hS dX6_kept_29

theorem dX6_number_0 : decode cX6_number 0 = .ok (.iload_n 1, 1) := by decide +kernel
theorem dX6_number_1 : decode cX6_number 1 = .ok (.tableswitch 171 0 18 #[91, 99, 107, 115, 123, 123, 130, 137, 142, 150, 158, 171, 171, 171, 171, 171, 171, 171, 166], 91) := by decide +kernel
theorem dX6_number_92 : decode cX6_number 92 = .ok (.aload_n 0, 1) := by decide +kernel
theorem dX6_number_93 : decode cX6_number 93 = .ok (.getfield 7, 3) := by decide +kernel
theorem dX6_number_96 : decode cX6_number 96 = .ok (.bipush 82, 2) := by decide +kernel
theorem dX6_number_98 : decode cX6_number 98 = .ok (.iaload, 1) := by decide +kernel
theorem dX6_number_99 : decode cX6_number 99 = .ok (.ireturn, 1) := by decide +kernel
theorem dX6_number_100 : decode cX6_number 100 = .ok (.aload_n 0, 1) := by decide +kernel
theorem dX6_number_101 : decode cX6_number 101 = .ok (.getfield 7, 3) := by decide +kernel
theorem dX6_number_104 : decode cX6_number 104 = .ok (.bipush 83, 2) := by decide +kernel
theorem dX6_number_106 : decode cX6_number 106 = .ok (.iaload, 1) := by decide +kernel
theorem dX6_number_107 : decode cX6_number 107 = .ok (.ireturn, 1) := by decide +kernel
theorem dX6_number_108 : decode cX6_number 108 = .ok (.aload_n 0, 1) := by decide +kernel
theorem dX6_number_109 : decode cX6_number 109 = .ok (.getfield 7, 3) := by decide +kernel
theorem dX6_number_112 : decode cX6_number 112 = .ok (.bipush 84, 2) := by decide +kernel
theorem dX6_number_114 : decode cX6_number 114 = .ok (.iaload, 1) := by decide +kernel
theorem dX6_number_115 : decode cX6_number 115 = .ok (.ireturn, 1) := by decide +kernel
theorem dX6_number_116 : decode cX6_number 116 = .ok (.aload_n 0, 1) := by decide +kernel
theorem dX6_number_117 : decode cX6_number 117 = .ok (.getfield 7, 3) := by decide +kernel
theorem dX6_number_120 : decode cX6_number 120 = .ok (.bipush 85, 2) := by decide +kernel
theorem dX6_number_122 : decode cX6_number 122 = .ok (.iaload, 1) := by decide +kernel
theorem dX6_number_123 : decode cX6_number 123 = .ok (.ireturn, 1) := by decide +kernel
theorem dX6_number_124 : decode cX6_number 124 = .ok (.aload_n 0, 1) := by decide +kernel
theorem dX6_number_125 : decode cX6_number 125 = .ok (.bipush 26, 2) := by decide +kernel
theorem dX6_number_127 : decode cX6_number 127 = .ok (.invokevirtual 118, 3) := by decide +kernel
theorem dX6_number_130 : decode cX6_number 130 = .ok (.ireturn, 1) := by decide +kernel
theorem dX6_number_131 : decode cX6_number 131 = .ok (.aload_n 0, 1) := by decide +kernel
theorem dX6_number_132 : decode cX6_number 132 = .ok (.bipush 50, 2) := by decide +kernel
theorem dX6_number_134 : decode cX6_number 134 = .ok (.invokevirtual 118, 3) := by decide +kernel
theorem dX6_number_137 : decode cX6_number 137 = .ok (.ireturn, 1) := by decide +kernel
theorem dX6_number_138 : decode cX6_number 138 = .ok (.aload_n 0, 1) := by decide +kernel
theorem dX6_number_139 : decode cX6_number 139 = .ok (.invokevirtual 124, 3) := by decide +kernel
theorem dX6_number_142 : decode cX6_number 142 = .ok (.ireturn, 1) := by decide +kernel
theorem dX6_number_143 : decode cX6_number 143 = .ok (.aload_n 0, 1) := by decide +kernel
theorem dX6_number_144 : decode cX6_number 144 = .ok (.getfield 7, 3) := by decide +kernel
theorem dX6_number_147 : decode cX6_number 147 = .ok (.bipush 86, 2) := by decide +kernel
theorem dX6_number_149 : decode cX6_number 149 = .ok (.iaload, 1) := by decide +kernel
theorem dX6_number_150 : decode cX6_number 150 = .ok (.ireturn, 1) := by decide +kernel
theorem dX6_number_151 : decode cX6_number 151 = .ok (.aload_n 0, 1) := by decide +kernel
theorem dX6_number_152 : decode cX6_number 152 = .ok (.getfield 7, 3) := by decide +kernel
theorem dX6_number_155 : decode cX6_number 155 = .ok (.bipush 81, 2) := by decide +kernel
theorem dX6_number_157 : decode cX6_number 157 = .ok (.iaload, 1) := by decide +kernel
theorem dX6_number_158 : decode cX6_number 158 = .ok (.ireturn, 1) := by decide +kernel
theorem dX6_number_159 : decode cX6_number 159 = .ok (.aload_n 0, 1) := by decide +kernel
theorem dX6_number_160 : decode cX6_number 160 = .ok (.getfield 7, 3) := by decide +kernel
theorem dX6_number_163 : decode cX6_number 163 = .ok (.bipush 87, 2) := by decide +kernel
theorem dX6_number_165 : decode cX6_number 165 = .ok (.iaload, 1) := by decide +kernel
theorem dX6_number_166 : decode cX6_number 166 = .ok (.ireturn, 1) := by decide +kernel
theorem dX6_number_167 : decode cX6_number 167 = .ok (.aload_n 0, 1) := by decide +kernel
theorem dX6_number_168 : decode cX6_number 168 = .ok (.getfield 43, 3) := by decide +kernel
theorem dX6_number_171 : decode cX6_number 171 = .ok (.ireturn, 1) := by decide +kernel
theorem dX6_number_172 : decode cX6_number 172 = .ok (.aload_n 0, 1) := by decide +kernel
theorem dX6_number_173 : decode cX6_number 173 = .ok (.getfield 7, 3) := by decide +kernel
theorem dX6_number_176 : decode cX6_number 176 = .ok (.bipush 74, 2) := by decide +kernel
theorem dX6_number_178 : decode cX6_number 178 = .ok (.iload_n 1, 1) := by decide +kernel
theorem dX6_number_179 : decode cX6_number 179 = .ok (.iadd, 1) := by decide +kernel
theorem dX6_number_180 : decode cX6_number 180 = .ok (.bipush 11, 2) := by decide +kernel
theorem dX6_number_182 : decode cX6_number 182 = .ok (.isub, 1) := by decide +kernel
theorem dX6_number_183 : decode cX6_number 183 = .ok (.iaload, 1) := by decide +kernel
theorem dX6_number_184 : decode cX6_number 184 = .ok (.ireturn, 1) := by decide +kernel
set_option maxHeartbeats 1000000 in
set_option maxRecDepth 100000 in
theorem c_X6_number (l : Launch) (G : GT) (q : Nat → Nat) (v : SV) (hs : Int64) (x1 : Int32) (hx : le_n x1 18) : Met l yX6_number (Cond.code yX6_number cX6_number 2 (some .int) :: bigW) ({ frames := 1, cells := 0, slots := 0, locals := 23 }) (BP G [.ref (q 0), .int x1] (fun U H => PW G (mdW G q v hs) H)) (QP (.int (fX6_number v x1))) 0 0 (fun _ => False) := by
  refine met_of (by decide) (Nat.le_of_ble_eq_true rfl) ?_
  intro p e s m below meth c ls hC hKN hB0 hl
  have hP := hB0
  have hl : lv_has ls 2 [(0, .ref (q 0)), (1, .int x1)] := hl
  have hg : fX6_number v x1 = fX6_number v x1 := rfl
  refine lv_iload_n hC.1 hC.2.1 dX6_number_0 rfl (lv_at hl 1 rfl) ?_
  by_cases k1_0 : x1 = 0
  · refine swIn hC (tgt := 92) 0 k1_0 dX6_number_1 (by decide) (by decide) rfl (by decide) ?_
    refine lv_aload_n hC.1 hC.2.1 dX6_number_92 rfl (lv_at hl 0 rfl) ?_
    refine gf (v := .ref (q 1)) hC fwX6 hKN hP 0 rfl rfl 0 (by decide) rfl wd_887 rfl dX6_number_93 ?_
    refine lv_bipush (v := 82) hC.1 hC.2.1 dX6_number_96 (by decide +kernel) ?_
    refine iald_k hC hKN hP 1 rfl (n := 124) (f := (v 0)) 82 (rfl) (by omega) (by decide) dX6_number_98 ?_
    have e_1 : fX6_number v x1 = (v 0) 82 := by delta fX6_number; exact Eq.trans (if_pos k1_0) rfl
    have hg : fX6_number v x1 = (v 0) 82 := by have e2 := congrArg (fun z => z) e_1; exact hg.trans e2
    exact eP_i hC (congrArg Value.int hg) dX6_number_99
  · skip
    by_cases k1_1 : x1 = 1
    · refine swIn hC (tgt := 100) 1 k1_1 dX6_number_1 (by decide) (by decide) rfl (by decide) ?_
      refine lv_aload_n hC.1 hC.2.1 dX6_number_100 rfl (lv_at hl 0 rfl) ?_
      refine gf (v := .ref (q 1)) hC fwX6 hKN hP 0 rfl rfl 0 (by decide) rfl wd_887 rfl dX6_number_101 ?_
      refine lv_bipush (v := 83) hC.1 hC.2.1 dX6_number_104 (by decide +kernel) ?_
      refine iald_k hC hKN hP 1 rfl (n := 124) (f := (v 0)) 83 (rfl) (by omega) (by decide) dX6_number_106 ?_
      have e_2 : fX6_number v x1 = (v 0) 83 := by delta fX6_number; exact Eq.trans (if_neg k1_0) (Eq.trans (if_pos k1_1) rfl)
      have hg : fX6_number v x1 = (v 0) 83 := by have e2 := congrArg (fun z => z) e_2; exact hg.trans e2
      exact eP_i hC (congrArg Value.int hg) dX6_number_107
    · skip
      by_cases k1_2 : x1 = 2
      · refine swIn hC (tgt := 108) 2 k1_2 dX6_number_1 (by decide) (by decide) rfl (by decide) ?_
        refine lv_aload_n hC.1 hC.2.1 dX6_number_108 rfl (lv_at hl 0 rfl) ?_
        refine gf (v := .ref (q 1)) hC fwX6 hKN hP 0 rfl rfl 0 (by decide) rfl wd_887 rfl dX6_number_109 ?_
        refine lv_bipush (v := 84) hC.1 hC.2.1 dX6_number_112 (by decide +kernel) ?_
        refine iald_k hC hKN hP 1 rfl (n := 124) (f := (v 0)) 84 (rfl) (by omega) (by decide) dX6_number_114 ?_
        have e_3 : fX6_number v x1 = (v 0) 84 := by delta fX6_number; exact Eq.trans (if_neg k1_0) (Eq.trans (if_neg k1_1) (Eq.trans (if_pos k1_2) rfl))
        have hg : fX6_number v x1 = (v 0) 84 := by have e2 := congrArg (fun z => z) e_3; exact hg.trans e2
        exact eP_i hC (congrArg Value.int hg) dX6_number_115
      · skip
        by_cases k1_3 : x1 = 3
        · refine swIn hC (tgt := 116) 3 k1_3 dX6_number_1 (by decide) (by decide) rfl (by decide) ?_
          refine lv_aload_n hC.1 hC.2.1 dX6_number_116 rfl (lv_at hl 0 rfl) ?_
          refine gf (v := .ref (q 1)) hC fwX6 hKN hP 0 rfl rfl 0 (by decide) rfl wd_887 rfl dX6_number_117 ?_
          refine lv_bipush (v := 85) hC.1 hC.2.1 dX6_number_120 (by decide +kernel) ?_
          refine iald_k hC hKN hP 1 rfl (n := 124) (f := (v 0)) 85 (rfl) (by omega) (by decide) dX6_number_122 ?_
          have e_4 : fX6_number v x1 = (v 0) 85 := by delta fX6_number; exact Eq.trans (if_neg k1_0) (Eq.trans (if_neg k1_1) (Eq.trans (if_neg k1_2) (Eq.trans (if_pos k1_3) rfl)))
          have hg : fX6_number v x1 = (v 0) 85 := by have e2 := congrArg (fun z => z) e_4; exact hg.trans e2
          exact eP_i hC (congrArg Value.int hg) dX6_number_123
        · skip
          by_cases k1_4 : x1 = 4
          · refine swIn hC (tgt := 124) 4 k1_4 dX6_number_1 (by decide) (by decide) rfl (by decide) ?_
            refine lv_aload_n hC.1 hC.2.1 dX6_number_124 rfl (lv_at hl 0 rfl) ?_
            refine lv_bipush (v := 26) hC.1 hC.2.1 dX6_number_125 (by decide +kernel) ?_
            refine runP (rV (B := fun U H => PW G (mdW G q v hs) H) (As := [.int 26]) (rest := []) hC mwX6_sum (c_X6_sum l G q v hs 26 (by decide)) iwX6_sum wd_1039 ⟨rfl, rfl⟩ ⟨Nat.le_of_ble_eq_true rfl, Nat.le_of_ble_eq_true rfl⟩ (stb_h (fun H => PW G (mdW G q v hs) H)) hKN hP (va_recv hKN.k hP (ci := 6) (q0 := 0) rfl rfl) rfl hl.1 rfl (Nat.le_of_ble_eq_true rfl) dX6_number_127 ⟨Nat.zero_le _, Nat.zero_le _⟩) ?_
            have e_5 : fX6_number v x1 = fX6_sum v 26 := by delta fX6_number; exact Eq.trans (if_neg k1_0) (Eq.trans (if_neg k1_1) (Eq.trans (if_neg k1_2) (Eq.trans (if_neg k1_3) (Eq.trans (if_pos k1_4) rfl))))
            have hg : fX6_number v x1 = fX6_sum v 26 := by have e2 := congrArg (fun z => z) e_5; exact hg.trans e2
            exact eP_i hC (congrArg Value.int hg) dX6_number_130
          · skip
            by_cases k1_5 : x1 = 5
            · refine swIn hC (tgt := 124) 5 k1_5 dX6_number_1 (by decide) (by decide) rfl (by decide) ?_
              refine lv_aload_n hC.1 hC.2.1 dX6_number_124 rfl (lv_at hl 0 rfl) ?_
              refine lv_bipush (v := 26) hC.1 hC.2.1 dX6_number_125 (by decide +kernel) ?_
              refine runP (rV (B := fun U H => PW G (mdW G q v hs) H) (As := [.int 26]) (rest := []) hC mwX6_sum (c_X6_sum l G q v hs 26 (by decide)) iwX6_sum wd_1039 ⟨rfl, rfl⟩ ⟨Nat.le_of_ble_eq_true rfl, Nat.le_of_ble_eq_true rfl⟩ (stb_h (fun H => PW G (mdW G q v hs) H)) hKN hP (va_recv hKN.k hP (ci := 6) (q0 := 0) rfl rfl) rfl hl.1 rfl (Nat.le_of_ble_eq_true rfl) dX6_number_127 ⟨Nat.zero_le _, Nat.zero_le _⟩) ?_
              have e_6 : fX6_number v x1 = fX6_sum v 26 := by delta fX6_number; exact Eq.trans (if_neg k1_0) (Eq.trans (if_neg k1_1) (Eq.trans (if_neg k1_2) (Eq.trans (if_neg k1_3) (Eq.trans (if_neg k1_4) (Eq.trans (if_pos k1_5) rfl)))))
              have hg : fX6_number v x1 = fX6_sum v 26 := by have e2 := congrArg (fun z => z) e_6; exact hg.trans e2
              exact eP_i hC (congrArg Value.int hg) dX6_number_130
            · skip
              by_cases k1_6 : x1 = 6
              · refine swIn hC (tgt := 131) 6 k1_6 dX6_number_1 (by decide) (by decide) rfl (by decide) ?_
                refine lv_aload_n hC.1 hC.2.1 dX6_number_131 rfl (lv_at hl 0 rfl) ?_
                refine lv_bipush (v := 50) hC.1 hC.2.1 dX6_number_132 (by decide +kernel) ?_
                refine runP (rV (B := fun U H => PW G (mdW G q v hs) H) (As := [.int 50]) (rest := []) hC mwX6_sum (c_X6_sum l G q v hs 50 (by decide)) iwX6_sum wd_1039 ⟨rfl, rfl⟩ ⟨Nat.le_of_ble_eq_true rfl, Nat.le_of_ble_eq_true rfl⟩ (stb_h (fun H => PW G (mdW G q v hs) H)) hKN hP (va_recv hKN.k hP (ci := 6) (q0 := 0) rfl rfl) rfl hl.1 rfl (Nat.le_of_ble_eq_true rfl) dX6_number_134 ⟨Nat.zero_le _, Nat.zero_le _⟩) ?_
                have e_7 : fX6_number v x1 = fX6_sum v 50 := by delta fX6_number; exact Eq.trans (if_neg k1_0) (Eq.trans (if_neg k1_1) (Eq.trans (if_neg k1_2) (Eq.trans (if_neg k1_3) (Eq.trans (if_neg k1_4) (Eq.trans (if_neg k1_5) (Eq.trans (if_pos k1_6) rfl))))))
                have hg : fX6_number v x1 = fX6_sum v 50 := by have e2 := congrArg (fun z => z) e_7; exact hg.trans e2
                exact eP_i hC (congrArg Value.int hg) dX6_number_137
              · skip
                by_cases k1_7 : x1 = 7
                · refine swIn hC (tgt := 138) 7 k1_7 dX6_number_1 (by decide) (by decide) rfl (by decide) ?_
                  refine lv_aload_n hC.1 hC.2.1 dX6_number_138 rfl (lv_at hl 0 rfl) ?_
                  refine runP (rV (B := fun U H => PW G (mdW G q v hs) H) (As := []) (rest := []) hC mwX6_hottestNow (c_X6_hottestNow l G q v hs) iwX6_hottestNow wd_1047 ⟨rfl, rfl⟩ ⟨Nat.le_of_ble_eq_true rfl, Nat.le_of_ble_eq_true rfl⟩ (stb_h (fun H => PW G (mdW G q v hs) H)) hKN hP (va_recv hKN.k hP (ci := 6) (q0 := 0) rfl rfl) rfl hl.1 rfl (Nat.le_of_ble_eq_true rfl) dX6_number_139 ⟨Nat.zero_le _, Nat.zero_le _⟩) ?_
                  have e_8 : fX6_number v x1 = fX6_hottestNow v := by delta fX6_number; exact Eq.trans (if_neg k1_0) (Eq.trans (if_neg k1_1) (Eq.trans (if_neg k1_2) (Eq.trans (if_neg k1_3) (Eq.trans (if_neg k1_4) (Eq.trans (if_neg k1_5) (Eq.trans (if_neg k1_6) (Eq.trans (if_pos k1_7) rfl)))))))
                  have hg : fX6_number v x1 = fX6_hottestNow v := by have e2 := congrArg (fun z => z) e_8; exact hg.trans e2
                  exact eP_i hC (congrArg Value.int hg) dX6_number_142
                · skip
                  by_cases k1_8 : x1 = 8
                  · refine swIn hC (tgt := 143) 8 k1_8 dX6_number_1 (by decide) (by decide) rfl (by decide) ?_
                    refine lv_aload_n hC.1 hC.2.1 dX6_number_143 rfl (lv_at hl 0 rfl) ?_
                    refine gf (v := .ref (q 1)) hC fwX6 hKN hP 0 rfl rfl 0 (by decide) rfl wd_887 rfl dX6_number_144 ?_
                    refine lv_bipush (v := 86) hC.1 hC.2.1 dX6_number_147 (by decide +kernel) ?_
                    refine iald_k hC hKN hP 1 rfl (n := 124) (f := (v 0)) 86 (rfl) (by omega) (by decide) dX6_number_149 ?_
                    have e_9 : fX6_number v x1 = (v 0) 86 := by delta fX6_number; exact Eq.trans (if_neg k1_0) (Eq.trans (if_neg k1_1) (Eq.trans (if_neg k1_2) (Eq.trans (if_neg k1_3) (Eq.trans (if_neg k1_4) (Eq.trans (if_neg k1_5) (Eq.trans (if_neg k1_6) (Eq.trans (if_neg k1_7) (Eq.trans (if_pos k1_8) rfl))))))))
                    have hg : fX6_number v x1 = (v 0) 86 := by have e2 := congrArg (fun z => z) e_9; exact hg.trans e2
                    exact eP_i hC (congrArg Value.int hg) dX6_number_150
                  · skip
                    by_cases k1_9 : x1 = 9
                    · refine swIn hC (tgt := 151) 9 k1_9 dX6_number_1 (by decide) (by decide) rfl (by decide) ?_
                      refine lv_aload_n hC.1 hC.2.1 dX6_number_151 rfl (lv_at hl 0 rfl) ?_
                      refine gf (v := .ref (q 1)) hC fwX6 hKN hP 0 rfl rfl 0 (by decide) rfl wd_887 rfl dX6_number_152 ?_
                      refine lv_bipush (v := 81) hC.1 hC.2.1 dX6_number_155 (by decide +kernel) ?_
                      refine iald_k hC hKN hP 1 rfl (n := 124) (f := (v 0)) 81 (rfl) (by omega) (by decide) dX6_number_157 ?_
                      have e_10 : fX6_number v x1 = (v 0) 81 := by delta fX6_number; exact Eq.trans (if_neg k1_0) (Eq.trans (if_neg k1_1) (Eq.trans (if_neg k1_2) (Eq.trans (if_neg k1_3) (Eq.trans (if_neg k1_4) (Eq.trans (if_neg k1_5) (Eq.trans (if_neg k1_6) (Eq.trans (if_neg k1_7) (Eq.trans (if_neg k1_8) (Eq.trans (if_pos k1_9) rfl)))))))))
                      have hg : fX6_number v x1 = (v 0) 81 := by have e2 := congrArg (fun z => z) e_10; exact hg.trans e2
                      exact eP_i hC (congrArg Value.int hg) dX6_number_158
                    · skip
                      by_cases k1_10 : x1 = 10
                      · refine swIn hC (tgt := 159) 10 k1_10 dX6_number_1 (by decide) (by decide) rfl (by decide) ?_
                        refine lv_aload_n hC.1 hC.2.1 dX6_number_159 rfl (lv_at hl 0 rfl) ?_
                        refine gf (v := .ref (q 1)) hC fwX6 hKN hP 0 rfl rfl 0 (by decide) rfl wd_887 rfl dX6_number_160 ?_
                        refine lv_bipush (v := 87) hC.1 hC.2.1 dX6_number_163 (by decide +kernel) ?_
                        refine iald_k hC hKN hP 1 rfl (n := 124) (f := (v 0)) 87 (rfl) (by omega) (by decide) dX6_number_165 ?_
                        have e_11 : fX6_number v x1 = (v 0) 87 := by delta fX6_number; exact Eq.trans (if_neg k1_0) (Eq.trans (if_neg k1_1) (Eq.trans (if_neg k1_2) (Eq.trans (if_neg k1_3) (Eq.trans (if_neg k1_4) (Eq.trans (if_neg k1_5) (Eq.trans (if_neg k1_6) (Eq.trans (if_neg k1_7) (Eq.trans (if_neg k1_8) (Eq.trans (if_neg k1_9) (Eq.trans (if_pos k1_10) rfl))))))))))
                        have hg : fX6_number v x1 = (v 0) 87 := by have e2 := congrArg (fun z => z) e_11; exact hg.trans e2
                        exact eP_i hC (congrArg Value.int hg) dX6_number_166
                      · skip
                        by_cases k1_11 : x1 = 11
                        · refine swIn hC (tgt := 172) 11 k1_11 dX6_number_1 (by decide) (by decide) rfl (by decide) ?_
                          refine lv_aload_n hC.1 hC.2.1 dX6_number_172 rfl (lv_at hl 0 rfl) ?_
                          refine gf (v := .ref (q 1)) hC fwX6 hKN hP 0 rfl rfl 0 (by decide) rfl wd_887 rfl dX6_number_173 ?_
                          refine lv_bipush (v := 74) hC.1 hC.2.1 dX6_number_176 (by decide +kernel) ?_
                          refine lv_iload_n hC.1 hC.2.1 dX6_number_178 rfl (lv_at hl 1 rfl) ?_
                          refine lv_iadd hC.1 hC.2.1 dX6_number_179 ?_
                          refine lv_bipush (v := 11) hC.1 hC.2.1 dX6_number_180 (by decide +kernel) ?_
                          refine lv_isub hC.1 hC.2.1 dX6_number_182 ?_
                          refine iald_i hC hKN hP 1 rfl (num_in hx) dX6_number_183 ?_
                          have e_12 : fX6_number v x1 = (v 0) ((74 + x1) - 11).toNatClampNeg := by delta fX6_number; exact Eq.trans (if_neg k1_0) (Eq.trans (if_neg k1_1) (Eq.trans (if_neg k1_2) (Eq.trans (if_neg k1_3) (Eq.trans (if_neg k1_4) (Eq.trans (if_neg k1_5) (Eq.trans (if_neg k1_6) (Eq.trans (if_neg k1_7) (Eq.trans (if_neg k1_8) (Eq.trans (if_neg k1_9) (Eq.trans (if_neg k1_10) (Eq.trans (if_pos k1_11) rfl)))))))))))
                          have hg : fX6_number v x1 = (v 0) ((74 + x1) - 11).toNatClampNeg := by have e2 := congrArg (fun z => z) e_12; exact hg.trans e2
                          exact eP_i hC (congrArg Value.int hg) dX6_number_184
                        · skip
                          by_cases k1_12 : x1 = 12
                          · refine swIn hC (tgt := 172) 12 k1_12 dX6_number_1 (by decide) (by decide) rfl (by decide) ?_
                            refine lv_aload_n hC.1 hC.2.1 dX6_number_172 rfl (lv_at hl 0 rfl) ?_
                            refine gf (v := .ref (q 1)) hC fwX6 hKN hP 0 rfl rfl 0 (by decide) rfl wd_887 rfl dX6_number_173 ?_
                            refine lv_bipush (v := 74) hC.1 hC.2.1 dX6_number_176 (by decide +kernel) ?_
                            refine lv_iload_n hC.1 hC.2.1 dX6_number_178 rfl (lv_at hl 1 rfl) ?_
                            refine lv_iadd hC.1 hC.2.1 dX6_number_179 ?_
                            refine lv_bipush (v := 11) hC.1 hC.2.1 dX6_number_180 (by decide +kernel) ?_
                            refine lv_isub hC.1 hC.2.1 dX6_number_182 ?_
                            refine iald_i hC hKN hP 1 rfl (num_in hx) dX6_number_183 ?_
                            have e_13 : fX6_number v x1 = (v 0) ((74 + x1) - 11).toNatClampNeg := by delta fX6_number; exact Eq.trans (if_neg k1_0) (Eq.trans (if_neg k1_1) (Eq.trans (if_neg k1_2) (Eq.trans (if_neg k1_3) (Eq.trans (if_neg k1_4) (Eq.trans (if_neg k1_5) (Eq.trans (if_neg k1_6) (Eq.trans (if_neg k1_7) (Eq.trans (if_neg k1_8) (Eq.trans (if_neg k1_9) (Eq.trans (if_neg k1_10) (Eq.trans (if_neg k1_11) (Eq.trans (if_pos k1_12) rfl))))))))))))
                            have hg : fX6_number v x1 = (v 0) ((74 + x1) - 11).toNatClampNeg := by have e2 := congrArg (fun z => z) e_13; exact hg.trans e2
                            exact eP_i hC (congrArg Value.int hg) dX6_number_184
                          · skip
                            by_cases k1_13 : x1 = 13
                            · refine swIn hC (tgt := 172) 13 k1_13 dX6_number_1 (by decide) (by decide) rfl (by decide) ?_
                              refine lv_aload_n hC.1 hC.2.1 dX6_number_172 rfl (lv_at hl 0 rfl) ?_
                              refine gf (v := .ref (q 1)) hC fwX6 hKN hP 0 rfl rfl 0 (by decide) rfl wd_887 rfl dX6_number_173 ?_
                              refine lv_bipush (v := 74) hC.1 hC.2.1 dX6_number_176 (by decide +kernel) ?_
                              refine lv_iload_n hC.1 hC.2.1 dX6_number_178 rfl (lv_at hl 1 rfl) ?_
                              refine lv_iadd hC.1 hC.2.1 dX6_number_179 ?_
                              refine lv_bipush (v := 11) hC.1 hC.2.1 dX6_number_180 (by decide +kernel) ?_
                              refine lv_isub hC.1 hC.2.1 dX6_number_182 ?_
                              refine iald_i hC hKN hP 1 rfl (num_in hx) dX6_number_183 ?_
                              have e_14 : fX6_number v x1 = (v 0) ((74 + x1) - 11).toNatClampNeg := by delta fX6_number; exact Eq.trans (if_neg k1_0) (Eq.trans (if_neg k1_1) (Eq.trans (if_neg k1_2) (Eq.trans (if_neg k1_3) (Eq.trans (if_neg k1_4) (Eq.trans (if_neg k1_5) (Eq.trans (if_neg k1_6) (Eq.trans (if_neg k1_7) (Eq.trans (if_neg k1_8) (Eq.trans (if_neg k1_9) (Eq.trans (if_neg k1_10) (Eq.trans (if_neg k1_11) (Eq.trans (if_neg k1_12) (Eq.trans (if_pos k1_13) rfl)))))))))))))
                              have hg : fX6_number v x1 = (v 0) ((74 + x1) - 11).toNatClampNeg := by have e2 := congrArg (fun z => z) e_14; exact hg.trans e2
                              exact eP_i hC (congrArg Value.int hg) dX6_number_184
                            · skip
                              by_cases k1_14 : x1 = 14
                              · refine swIn hC (tgt := 172) 14 k1_14 dX6_number_1 (by decide) (by decide) rfl (by decide) ?_
                                refine lv_aload_n hC.1 hC.2.1 dX6_number_172 rfl (lv_at hl 0 rfl) ?_
                                refine gf (v := .ref (q 1)) hC fwX6 hKN hP 0 rfl rfl 0 (by decide) rfl wd_887 rfl dX6_number_173 ?_
                                refine lv_bipush (v := 74) hC.1 hC.2.1 dX6_number_176 (by decide +kernel) ?_
                                refine lv_iload_n hC.1 hC.2.1 dX6_number_178 rfl (lv_at hl 1 rfl) ?_
                                refine lv_iadd hC.1 hC.2.1 dX6_number_179 ?_
                                refine lv_bipush (v := 11) hC.1 hC.2.1 dX6_number_180 (by decide +kernel) ?_
                                refine lv_isub hC.1 hC.2.1 dX6_number_182 ?_
                                refine iald_i hC hKN hP 1 rfl (num_in hx) dX6_number_183 ?_
                                have e_15 : fX6_number v x1 = (v 0) ((74 + x1) - 11).toNatClampNeg := by delta fX6_number; exact Eq.trans (if_neg k1_0) (Eq.trans (if_neg k1_1) (Eq.trans (if_neg k1_2) (Eq.trans (if_neg k1_3) (Eq.trans (if_neg k1_4) (Eq.trans (if_neg k1_5) (Eq.trans (if_neg k1_6) (Eq.trans (if_neg k1_7) (Eq.trans (if_neg k1_8) (Eq.trans (if_neg k1_9) (Eq.trans (if_neg k1_10) (Eq.trans (if_neg k1_11) (Eq.trans (if_neg k1_12) (Eq.trans (if_neg k1_13) (Eq.trans (if_pos k1_14) rfl))))))))))))))
                                have hg : fX6_number v x1 = (v 0) ((74 + x1) - 11).toNatClampNeg := by have e2 := congrArg (fun z => z) e_15; exact hg.trans e2
                                exact eP_i hC (congrArg Value.int hg) dX6_number_184
                              · skip
                                by_cases k1_15 : x1 = 15
                                · refine swIn hC (tgt := 172) 15 k1_15 dX6_number_1 (by decide) (by decide) rfl (by decide) ?_
                                  refine lv_aload_n hC.1 hC.2.1 dX6_number_172 rfl (lv_at hl 0 rfl) ?_
                                  refine gf (v := .ref (q 1)) hC fwX6 hKN hP 0 rfl rfl 0 (by decide) rfl wd_887 rfl dX6_number_173 ?_
                                  refine lv_bipush (v := 74) hC.1 hC.2.1 dX6_number_176 (by decide +kernel) ?_
                                  refine lv_iload_n hC.1 hC.2.1 dX6_number_178 rfl (lv_at hl 1 rfl) ?_
                                  refine lv_iadd hC.1 hC.2.1 dX6_number_179 ?_
                                  refine lv_bipush (v := 11) hC.1 hC.2.1 dX6_number_180 (by decide +kernel) ?_
                                  refine lv_isub hC.1 hC.2.1 dX6_number_182 ?_
                                  refine iald_i hC hKN hP 1 rfl (num_in hx) dX6_number_183 ?_
                                  have e_16 : fX6_number v x1 = (v 0) ((74 + x1) - 11).toNatClampNeg := by delta fX6_number; exact Eq.trans (if_neg k1_0) (Eq.trans (if_neg k1_1) (Eq.trans (if_neg k1_2) (Eq.trans (if_neg k1_3) (Eq.trans (if_neg k1_4) (Eq.trans (if_neg k1_5) (Eq.trans (if_neg k1_6) (Eq.trans (if_neg k1_7) (Eq.trans (if_neg k1_8) (Eq.trans (if_neg k1_9) (Eq.trans (if_neg k1_10) (Eq.trans (if_neg k1_11) (Eq.trans (if_neg k1_12) (Eq.trans (if_neg k1_13) (Eq.trans (if_neg k1_14) (Eq.trans (if_pos k1_15) rfl)))))))))))))))
                                  have hg : fX6_number v x1 = (v 0) ((74 + x1) - 11).toNatClampNeg := by have e2 := congrArg (fun z => z) e_16; exact hg.trans e2
                                  exact eP_i hC (congrArg Value.int hg) dX6_number_184
                                · skip
                                  by_cases k1_16 : x1 = 16
                                  · refine swIn hC (tgt := 172) 16 k1_16 dX6_number_1 (by decide) (by decide) rfl (by decide) ?_
                                    refine lv_aload_n hC.1 hC.2.1 dX6_number_172 rfl (lv_at hl 0 rfl) ?_
                                    refine gf (v := .ref (q 1)) hC fwX6 hKN hP 0 rfl rfl 0 (by decide) rfl wd_887 rfl dX6_number_173 ?_
                                    refine lv_bipush (v := 74) hC.1 hC.2.1 dX6_number_176 (by decide +kernel) ?_
                                    refine lv_iload_n hC.1 hC.2.1 dX6_number_178 rfl (lv_at hl 1 rfl) ?_
                                    refine lv_iadd hC.1 hC.2.1 dX6_number_179 ?_
                                    refine lv_bipush (v := 11) hC.1 hC.2.1 dX6_number_180 (by decide +kernel) ?_
                                    refine lv_isub hC.1 hC.2.1 dX6_number_182 ?_
                                    refine iald_i hC hKN hP 1 rfl (num_in hx) dX6_number_183 ?_
                                    have e_17 : fX6_number v x1 = (v 0) ((74 + x1) - 11).toNatClampNeg := by delta fX6_number; exact Eq.trans (if_neg k1_0) (Eq.trans (if_neg k1_1) (Eq.trans (if_neg k1_2) (Eq.trans (if_neg k1_3) (Eq.trans (if_neg k1_4) (Eq.trans (if_neg k1_5) (Eq.trans (if_neg k1_6) (Eq.trans (if_neg k1_7) (Eq.trans (if_neg k1_8) (Eq.trans (if_neg k1_9) (Eq.trans (if_neg k1_10) (Eq.trans (if_neg k1_11) (Eq.trans (if_neg k1_12) (Eq.trans (if_neg k1_13) (Eq.trans (if_neg k1_14) (Eq.trans (if_neg k1_15) (Eq.trans (if_pos k1_16) rfl))))))))))))))))
                                    have hg : fX6_number v x1 = (v 0) ((74 + x1) - 11).toNatClampNeg := by have e2 := congrArg (fun z => z) e_17; exact hg.trans e2
                                    exact eP_i hC (congrArg Value.int hg) dX6_number_184
                                  · skip
                                    by_cases k1_17 : x1 = 17
                                    · refine swIn hC (tgt := 172) 17 k1_17 dX6_number_1 (by decide) (by decide) rfl (by decide) ?_
                                      refine lv_aload_n hC.1 hC.2.1 dX6_number_172 rfl (lv_at hl 0 rfl) ?_
                                      refine gf (v := .ref (q 1)) hC fwX6 hKN hP 0 rfl rfl 0 (by decide) rfl wd_887 rfl dX6_number_173 ?_
                                      refine lv_bipush (v := 74) hC.1 hC.2.1 dX6_number_176 (by decide +kernel) ?_
                                      refine lv_iload_n hC.1 hC.2.1 dX6_number_178 rfl (lv_at hl 1 rfl) ?_
                                      refine lv_iadd hC.1 hC.2.1 dX6_number_179 ?_
                                      refine lv_bipush (v := 11) hC.1 hC.2.1 dX6_number_180 (by decide +kernel) ?_
                                      refine lv_isub hC.1 hC.2.1 dX6_number_182 ?_
                                      refine iald_i hC hKN hP 1 rfl (num_in hx) dX6_number_183 ?_
                                      have e_18 : fX6_number v x1 = (v 0) ((74 + x1) - 11).toNatClampNeg := by delta fX6_number; exact Eq.trans (if_neg k1_0) (Eq.trans (if_neg k1_1) (Eq.trans (if_neg k1_2) (Eq.trans (if_neg k1_3) (Eq.trans (if_neg k1_4) (Eq.trans (if_neg k1_5) (Eq.trans (if_neg k1_6) (Eq.trans (if_neg k1_7) (Eq.trans (if_neg k1_8) (Eq.trans (if_neg k1_9) (Eq.trans (if_neg k1_10) (Eq.trans (if_neg k1_11) (Eq.trans (if_neg k1_12) (Eq.trans (if_neg k1_13) (Eq.trans (if_neg k1_14) (Eq.trans (if_neg k1_15) (Eq.trans (if_neg k1_16) (Eq.trans (if_pos k1_17) rfl)))))))))))))))))
                                      have hg : fX6_number v x1 = (v 0) ((74 + x1) - 11).toNatClampNeg := by have e2 := congrArg (fun z => z) e_18; exact hg.trans e2
                                      exact eP_i hC (congrArg Value.int hg) dX6_number_184
                                    · skip
                                      by_cases k1_18 : x1 = 18
                                      · refine swIn hC (tgt := 167) 18 k1_18 dX6_number_1 (by decide) (by decide) rfl (by decide) ?_
                                        refine lv_aload_n hC.1 hC.2.1 dX6_number_167 rfl (lv_at hl 0 rfl) ?_
                                        refine gf (v := .int (v 8 0)) hC fwX6 hKN hP 0 rfl rfl 2 (by decide) rfl wd_889 rfl dX6_number_168 ?_
                                        have e_19 : fX6_number v x1 = v 8 0 := by delta fX6_number; exact Eq.trans (if_neg k1_0) (Eq.trans (if_neg k1_1) (Eq.trans (if_neg k1_2) (Eq.trans (if_neg k1_3) (Eq.trans (if_neg k1_4) (Eq.trans (if_neg k1_5) (Eq.trans (if_neg k1_6) (Eq.trans (if_neg k1_7) (Eq.trans (if_neg k1_8) (Eq.trans (if_neg k1_9) (Eq.trans (if_neg k1_10) (Eq.trans (if_neg k1_11) (Eq.trans (if_neg k1_12) (Eq.trans (if_neg k1_13) (Eq.trans (if_neg k1_14) (Eq.trans (if_neg k1_15) (Eq.trans (if_neg k1_16) (Eq.trans (if_neg k1_17) (Eq.trans (if_pos k1_18) rfl))))))))))))))))))
                                        have hg : fX6_number v x1 = v 8 0 := by have e2 := congrArg (fun z => z) e_19; exact hg.trans e2
                                        exact eP_i hC (congrArg Value.int hg) dX6_number_171
                                      · skip
                                        refine lv_tableOut (tgt := 172) hC.1 hC.2.1 dX6_number_1 (sw_out 0 18 (by decide) (fun k h1 h2 => by match k, h1, h2 with  | 0, _, _ => exact k1_0 | 1, _, _ => exact k1_1 | 2, _, _ => exact k1_2 | 3, _, _ => exact k1_3 | 4, _, _ => exact k1_4 | 5, _, _ => exact k1_5 | 6, _, _ => exact k1_6 | 7, _, _ => exact k1_7 | 8, _, _ => exact k1_8 | 9, _, _ => exact k1_9 | 10, _, _ => exact k1_10 | 11, _, _ => exact k1_11 | 12, _, _ => exact k1_12 | 13, _, _ => exact k1_13 | 14, _, _ => exact k1_14 | 15, _, _ => exact k1_15 | 16, _, _ => exact k1_16 | 17, _, _ => exact k1_17 | 18, _, _ => exact k1_18 | k + 19, _, h => exact absurd h (by omega))) (by decide) ?_
                                        refine lv_aload_n hC.1 hC.2.1 dX6_number_172 rfl (lv_at hl 0 rfl) ?_
                                        refine gf (v := .ref (q 1)) hC fwX6 hKN hP 0 rfl rfl 0 (by decide) rfl wd_887 rfl dX6_number_173 ?_
                                        refine lv_bipush (v := 74) hC.1 hC.2.1 dX6_number_176 (by decide +kernel) ?_
                                        refine lv_iload_n hC.1 hC.2.1 dX6_number_178 rfl (lv_at hl 1 rfl) ?_
                                        refine lv_iadd hC.1 hC.2.1 dX6_number_179 ?_
                                        refine lv_bipush (v := 11) hC.1 hC.2.1 dX6_number_180 (by decide +kernel) ?_
                                        refine lv_isub hC.1 hC.2.1 dX6_number_182 ?_
                                        refine iald_i hC hKN hP 1 rfl (num_in hx) dX6_number_183 ?_
                                        have e_20 : fX6_number v x1 = (v 0) ((74 + x1) - 11).toNatClampNeg := by delta fX6_number; exact Eq.trans (if_neg k1_0) (Eq.trans (if_neg k1_1) (Eq.trans (if_neg k1_2) (Eq.trans (if_neg k1_3) (Eq.trans (if_neg k1_4) (Eq.trans (if_neg k1_5) (Eq.trans (if_neg k1_6) (Eq.trans (if_neg k1_7) (Eq.trans (if_neg k1_8) (Eq.trans (if_neg k1_9) (Eq.trans (if_neg k1_10) (Eq.trans (if_neg k1_11) (Eq.trans (if_neg k1_12) (Eq.trans (if_neg k1_13) (Eq.trans (if_neg k1_14) (Eq.trans (if_neg k1_15) (Eq.trans (if_neg k1_16) (Eq.trans (if_neg k1_17) (Eq.trans (if_neg k1_18) rfl))))))))))))))))))
                                        have hg : fX6_number v x1 = (v 0) ((74 + x1) - 11).toNatClampNeg := by have e2 := congrArg (fun z => z) e_20; exact hg.trans e2
                                        exact eP_i hC (congrArg Value.int hg) dX6_number_184

theorem dX6_count_0 : decode cX6_count 0 = .ok (.aload_n 0, 1) := by decide +kernel
theorem dX6_count_1 : decode cX6_count 1 = .ok (.iconst 0, 1) := by decide +kernel
theorem dX6_count_2 : decode cX6_count 2 = .ok (.putfield 34, 3) := by decide +kernel
theorem dX6_count_5 : decode cX6_count 5 = .ok (.iload_n 1, 1) := by decide +kernel
theorem dX6_count_6 : decode cX6_count 6 = .ok (.iconst 0, 1) := by decide +kernel
theorem dX6_count_7 : decode cX6_count 7 = .ok (.bipush 18, 2) := by decide +kernel
theorem dX6_count_9 : decode cX6_count 9 = .ok (.invokestatic 39, 3) := by decide +kernel
theorem dX6_count_12 : decode cX6_count 12 = .ok (.ifCond .eq 11, 3) := by decide +kernel
theorem dX6_count_15 : decode cX6_count 15 = .ok (.aload_n 0, 1) := by decide +kernel
theorem dX6_count_16 : decode cX6_count 16 = .ok (.iload_n 1, 1) := by decide +kernel
theorem dX6_count_17 : decode cX6_count 17 = .ok (.invokevirtual 183, 3) := by decide +kernel
theorem dX6_count_20 : decode cX6_count 20 = .ok (.goto 8, 3) := by decide +kernel
theorem dX6_count_23 : decode cX6_count 23 = .ok (.aload_n 0, 1) := by decide +kernel
theorem dX6_count_24 : decode cX6_count 24 = .ok (.iconst 1, 1) := by decide +kernel
theorem dX6_count_25 : decode cX6_count 25 = .ok (.invokevirtual 46, 3) := by decide +kernel
theorem dX6_count_28 : decode cX6_count 28 = .ok (.ireturn, 1) := by decide +kernel
set_option maxHeartbeats 1000000 in
set_option maxRecDepth 100000 in
theorem c_X6_count (l : Launch) (G : GT) (q : Nat → Nat) (v : SV) (hs : Int64) (x1 : Int32) (hq : mdD G q) : Met l yX6_count (Cond.code yX6_count cX6_count 2 (some .int) :: bigW) ({ frames := 2, cells := 0, slots := 0, locals := 44 }) (BP G [.ref (q 0), .int x1] (fun U H => PW G (mdW G q v hs) H)) (QE (some (.int (fX6_count v x1).2)) (fun H => PW G (mdW G q (fX6_count v x1).1 hs) H) (mdA q)) 0 0 (mdA q) := by
  refine met_of (by decide) (Nat.le_of_ble_eq_true rfl) ?_
  intro p e s m below meth c ls hC hKN hB0 hl
  have hP := hB0
  have hl : lv_has ls 2 [(0, .ref (q 0)), (1, .int x1)] := hl
  have hS : va_S (mdA q) s.heap s.heap [] := va_S.rf
  have hAL : ∀ a, (mdA q) a → gL G ≤ a := mdD_low hq
  have hg : fX6_count v x1 = fX6_count v x1 := rfl
  refine lv_aload_n hC.1 hC.2.1 dX6_count_0 rfl (lv_at hl 0 rfl) ?_
  refine lv_iconst (v := 0) hC.1 hC.2.1 dX6_count_1 (by decide) ?_
  refine pf (v := .int 0) (tv := .int) hC fwX6 hKN hP (mdD_D hq v hs) hS 0 rfl rfl 6 (by decide) rfl wd_893 rfl rfl rfl (Nat.le_of_ble_eq_true rfl) dX6_count_2 (fun H locs hq_1 hS => ?_)
  have hP : PW G (mdW G q (mkM (v 0) (v 1) (v 2) (v 3) (v 4) (v 5) (v 6) (v 7) (v 8 0) (v 8 1) 0 (v 8 3) (v 8 4) (v 8 5) (v 8 6) (v 8 7) (v 8 8)) hs) H := hq_1
  refine lv_iload_n hC.1 hC.2.1 dX6_count_5 rfl (lv_at hl 1 rfl) ?_
  refine lv_iconst (v := 0) hC.1 hC.2.1 dX6_count_6 (by decide) ?_
  refine lv_bipush (v := 18) hC.1 hC.2.1 dX6_count_7 (by decide +kernel) ?_
  refine runP (rS (B := fun U H => True) (As := [.int x1, .int 0, .int 18]) (rest := []) hC mwX6_in (c_X6_in l G x1 0 18) wd_975 wd_974 ⟨rfl, rfl⟩ ⟨Nat.le_of_ble_eq_true rfl, Nat.le_of_ble_eq_true rfl⟩ (fun _ _ _ _ h => h) (hKN.go hAL hS) trivial rfl hl.1 rfl (Nat.le_of_ble_eq_true rfl) dX6_count_9 ⟨Nat.zero_le _, Nat.zero_le _⟩) ?_
  refine lv_if_eq (tgt := 23) hC.1 hC.2.1 dX6_count_12 (by decide) (fun k12 => ?_) (fun k12 => ?_)
  · refine lv_aload_n hC.1 hC.2.1 dX6_count_23 rfl (lv_at hl 0 rfl) ?_
    refine lv_iconst (v := 1) hC.1 hC.2.1 dX6_count_24 (by decide) ?_
    refine runE (rV (B := fun U H => PW G (mdW G q (mkM (v 0) (v 1) (v 2) (v 3) (v 4) (v 5) (v 6) (v 7) (v 8 0) (v 8 1) 0 (v 8 3) (v 8 4) (v 8 5) (v 8 6) (v 8 7) (v 8 8)) hs) H) (As := [.int 1]) (rest := []) hC mwX6_fails (c_X6_fails l G q (mkM (v 0) (v 1) (v 2) (v 3) (v 4) (v 5) (v 6) (v 7) (v 8 0) (v 8 1) 0 (v 8 3) (v 8 4) (v 8 5) (v 8 6) (v 8 7) (v 8 8)) hs 1 hq) iwX6_fails wd_950 ⟨rfl, rfl⟩ ⟨Nat.le_of_ble_eq_true rfl, Nat.le_of_ble_eq_true rfl⟩ (stb_h (fun H => PW G (mdW G q (mkM (v 0) (v 1) (v 2) (v 3) (v 4) (v 5) (v 6) (v 7) (v 8 0) (v 8 1) 0 (v 8 3) (v 8 4) (v 8 5) (v 8 6) (v 8 7) (v 8 8)) hs) H)) (hKN.go hAL hS) hP (va_recv (hKN.go hAL hS).k hP (ci := 6) (q0 := 0) rfl rfl) rfl hl.1 rfl (Nat.le_of_ble_eq_true rfl) dX6_count_25 ⟨Nat.zero_le _, Nat.zero_le _⟩) hS (fun _ h => h) (fun _ h => h) (fun H locs hq_2 _ _ hS => ?_)
    have hP : PW G (mdW G q ((fX6_fails (mkM (v 0) (v 1) (v 2) (v 3) (v 4) (v 5) (v 6) (v 7) (v 8 0) (v 8 1) 0 (v 8 3) (v 8 4) (v 8 5) (v 8 6) (v 8 7) (v 8 8)) 1).1) hs) H := hq_2
    obtain ⟨r_3, er_3⟩ : ∃ z, z = fX6_fails (mkM (v 0) (v 1) (v 2) (v 3) (v 4) (v 5) (v 6) (v 7) (v 8 0) (v 8 1) 0 (v 8 3) (v 8 4) (v 8 5) (v 8 6) (v 8 7) (v 8 8)) 1 := ⟨_, rfl⟩
    rw [← er_3] at hP
    show W p l e ({ frames := 2, cells := 0, slots := 0, locals := 44 }) s m ([.ref (q 0), .int x1] : List Value).toArray below meth c H locs (0 + 0) (0 + 0) _ (F0 m (25 + 3) ls [.int ((fX6_fails (mkM (v 0) (v 1) (v 2) (v 3) (v 4) (v 5) (v 6) (v 7) (v 8 0) (v 8 1) 0 (v 8 3) (v 8 4) (v 8 5) (v 8 6) (v 8 7) (v 8 8)) 1).2)])
    rw [← er_3]
    have e_4 : fX6_count v x1 = (r_3.1, r_3.2) := by have q_ := er_3.symm; subst q_; delta fX6_count; exact Eq.trans (if_pos k12) rfl
    have hg : fX6_count v x1 = (r_3.1, r_3.2) := by have e2 := congrArg (fun z => z) e_4; exact hg.trans e2
    exact eE_i hC (by rw [hg]) (by show PW G (mdW G q (fX6_count v x1).1 hs) H; rw [hg]; exact hP) hS dX6_count_28
  · refine lv_aload_n hC.1 hC.2.1 dX6_count_15 rfl (lv_at hl 0 rfl) ?_
    refine lv_iload_n hC.1 hC.2.1 dX6_count_16 rfl (lv_at hl 1 rfl) ?_
    refine runP (rV (B := fun U H => PW G (mdW G q (mkM (v 0) (v 1) (v 2) (v 3) (v 4) (v 5) (v 6) (v 7) (v 8 0) (v 8 1) 0 (v 8 3) (v 8 4) (v 8 5) (v 8 6) (v 8 7) (v 8 8)) hs) H) (As := [.int x1]) (rest := []) hC mwX6_number (c_X6_number l G q (mkM (v 0) (v 1) (v 2) (v 3) (v 4) (v 5) (v 6) (v 7) (v 8 0) (v 8 1) 0 (v 8 3) (v 8 4) (v 8 5) (v 8 6) (v 8 7) (v 8 8)) hs x1 (in_nat (b := 18) (by omega) k12)) iwX6_number wd_1150 ⟨rfl, rfl⟩ ⟨Nat.le_of_ble_eq_true rfl, Nat.le_of_ble_eq_true rfl⟩ (stb_h (fun H => PW G (mdW G q (mkM (v 0) (v 1) (v 2) (v 3) (v 4) (v 5) (v 6) (v 7) (v 8 0) (v 8 1) 0 (v 8 3) (v 8 4) (v 8 5) (v 8 6) (v 8 7) (v 8 8)) hs) H)) (hKN.go hAL hS) hP (va_recv (hKN.go hAL hS).k hP (ci := 6) (q0 := 0) rfl rfl) rfl hl.1 rfl (Nat.le_of_ble_eq_true rfl) dX6_count_17 ⟨Nat.zero_le _, Nat.zero_le _⟩) ?_
    refine lv_goto (tgt := 28) hC.1 hC.2.1 dX6_count_20 (by decide) ?_
    have e_5 : fX6_count v x1 = (mkM (v 0) (v 1) (v 2) (v 3) (v 4) (v 5) (v 6) (v 7) (v 8 0) (v 8 1) 0 (v 8 3) (v 8 4) (v 8 5) (v 8 6) (v 8 7) (v 8 8), fX6_number (mkM (v 0) (v 1) (v 2) (v 3) (v 4) (v 5) (v 6) (v 7) (v 8 0) (v 8 1) 0 (v 8 3) (v 8 4) (v 8 5) (v 8 6) (v 8 7) (v 8 8)) x1) := by delta fX6_count; exact Eq.trans (if_neg k12) rfl
    have hg : fX6_count v x1 = (mkM (v 0) (v 1) (v 2) (v 3) (v 4) (v 5) (v 6) (v 7) (v 8 0) (v 8 1) 0 (v 8 3) (v 8 4) (v 8 5) (v 8 6) (v 8 7) (v 8 8), fX6_number (mkM (v 0) (v 1) (v 2) (v 3) (v 4) (v 5) (v 6) (v 7) (v 8 0) (v 8 1) 0 (v 8 3) (v 8 4) (v 8 5) (v 8 6) (v 8 7) (v 8 8)) x1) := by have e2 := congrArg (fun z => z) e_5; exact hg.trans e2
    exact eE_i hC (by rw [hg]) (by show PW G (mdW G q (fX6_count v x1).1 hs) H; rw [hg]; exact hP) hS dX6_count_28

theorem dX6_wouldBring_0 : decode cX6_wouldBring 0 = .ok (.aload_n 0, 1) := by decide +kernel
theorem dX6_wouldBring_1 : decode cX6_wouldBring 1 = .ok (.invokevirtual 186, 3) := by decide +kernel
theorem dX6_wouldBring_4 : decode cX6_wouldBring 4 = .ok (.aload_n 0, 1) := by decide +kernel
theorem dX6_wouldBring_5 : decode cX6_wouldBring 5 = .ok (.bipush 50, 2) := by decide +kernel
theorem dX6_wouldBring_7 : decode cX6_wouldBring 7 = .ok (.invokevirtual 118, 3) := by decide +kernel
theorem dX6_wouldBring_10 : decode cX6_wouldBring 10 = .ok (.istore_n 3, 1) := by decide +kernel
theorem dX6_wouldBring_11 : decode cX6_wouldBring 11 = .ok (.aload_n 0, 1) := by decide +kernel
theorem dX6_wouldBring_12 : decode cX6_wouldBring 12 = .ok (.invokevirtual 124, 3) := by decide +kernel
theorem dX6_wouldBring_15 : decode cX6_wouldBring 15 = .ok (.istore 4, 2) := by decide +kernel
theorem dX6_wouldBring_17 : decode cX6_wouldBring 17 = .ok (.aload_n 0, 1) := by decide +kernel
theorem dX6_wouldBring_18 : decode cX6_wouldBring 18 = .ok (.iload_n 1, 1) := by decide +kernel
theorem dX6_wouldBring_19 : decode cX6_wouldBring 19 = .ok (.invokevirtual 115, 3) := by decide +kernel
theorem dX6_wouldBring_22 : decode cX6_wouldBring 22 = .ok (.istore 5, 2) := by decide +kernel
theorem dX6_wouldBring_24 : decode cX6_wouldBring 24 = .ok (.iload_n 2, 1) := by decide +kernel
theorem dX6_wouldBring_25 : decode cX6_wouldBring 25 = .ok (.ifCond .ne 8, 3) := by decide +kernel
theorem dX6_wouldBring_28 : decode cX6_wouldBring 28 = .ok (.iload 5, 2) := by decide +kernel
theorem dX6_wouldBring_30 : decode cX6_wouldBring 30 = .ok (.goto 62, 3) := by decide +kernel
theorem dX6_wouldBring_33 : decode cX6_wouldBring 33 = .ok (.iload_n 2, 1) := by decide +kernel
theorem dX6_wouldBring_34 : decode cX6_wouldBring 34 = .ok (.iconst 1, 1) := by decide +kernel
theorem dX6_wouldBring_35 : decode cX6_wouldBring 35 = .ok (.if_icmp .ne 10, 3) := by decide +kernel
theorem dX6_wouldBring_38 : decode cX6_wouldBring 38 = .ok (.aload_n 0, 1) := by decide +kernel
theorem dX6_wouldBring_39 : decode cX6_wouldBring 39 = .ok (.getfield 90, 3) := by decide +kernel
theorem dX6_wouldBring_42 : decode cX6_wouldBring 42 = .ok (.goto 50, 3) := by decide +kernel
theorem dX6_wouldBring_45 : decode cX6_wouldBring 45 = .ok (.iload_n 2, 1) := by decide +kernel
theorem dX6_wouldBring_46 : decode cX6_wouldBring 46 = .ok (.iconst 2, 1) := by decide +kernel
theorem dX6_wouldBring_47 : decode cX6_wouldBring 47 = .ok (.if_icmp .ne 11, 3) := by decide +kernel
theorem dX6_wouldBring_50 : decode cX6_wouldBring 50 = .ok (.aload_n 0, 1) := by decide +kernel
theorem dX6_wouldBring_51 : decode cX6_wouldBring 51 = .ok (.iload_n 1, 1) := by decide +kernel
theorem dX6_wouldBring_52 : decode cX6_wouldBring 52 = .ok (.invokevirtual 75, 3) := by decide +kernel
theorem dX6_wouldBring_55 : decode cX6_wouldBring 55 = .ok (.goto 37, 3) := by decide +kernel
theorem dX6_wouldBring_58 : decode cX6_wouldBring 58 = .ok (.iload_n 2, 1) := by decide +kernel
theorem dX6_wouldBring_59 : decode cX6_wouldBring 59 = .ok (.iconst 3, 1) := by decide +kernel
theorem dX6_wouldBring_60 : decode cX6_wouldBring 60 = .ok (.if_icmp .ne 14, 3) := by decide +kernel
theorem dX6_wouldBring_63 : decode cX6_wouldBring 63 = .ok (.aload_n 0, 1) := by decide +kernel
theorem dX6_wouldBring_64 : decode cX6_wouldBring 64 = .ok (.bipush 50, 2) := by decide +kernel
theorem dX6_wouldBring_66 : decode cX6_wouldBring 66 = .ok (.invokevirtual 118, 3) := by decide +kernel
theorem dX6_wouldBring_69 : decode cX6_wouldBring 69 = .ok (.iload_n 3, 1) := by decide +kernel
theorem dX6_wouldBring_70 : decode cX6_wouldBring 70 = .ok (.isub, 1) := by decide +kernel
theorem dX6_wouldBring_71 : decode cX6_wouldBring 71 = .ok (.goto 21, 3) := by decide +kernel
theorem dX6_wouldBring_74 : decode cX6_wouldBring 74 = .ok (.aload_n 0, 1) := by decide +kernel
theorem dX6_wouldBring_75 : decode cX6_wouldBring 75 = .ok (.getfield 81, 3) := by decide +kernel
theorem dX6_wouldBring_78 : decode cX6_wouldBring 78 = .ok (.iload 4, 2) := by decide +kernel
theorem dX6_wouldBring_80 : decode cX6_wouldBring 80 = .ok (.if_icmp .le 10, 3) := by decide +kernel
theorem dX6_wouldBring_83 : decode cX6_wouldBring 83 = .ok (.aload_n 0, 1) := by decide +kernel
theorem dX6_wouldBring_84 : decode cX6_wouldBring 84 = .ok (.getfield 81, 3) := by decide +kernel
theorem dX6_wouldBring_87 : decode cX6_wouldBring 87 = .ok (.goto 5, 3) := by decide +kernel
theorem dX6_wouldBring_90 : decode cX6_wouldBring 90 = .ok (.iload 4, 2) := by decide +kernel
theorem dX6_wouldBring_92 : decode cX6_wouldBring 92 = .ok (.istore 6, 2) := by decide +kernel
theorem dX6_wouldBring_94 : decode cX6_wouldBring 94 = .ok (.aload_n 0, 1) := by decide +kernel
theorem dX6_wouldBring_95 : decode cX6_wouldBring 95 = .ok (.invokevirtual 189, 3) := by decide +kernel
theorem dX6_wouldBring_98 : decode cX6_wouldBring 98 = .ok (.iload 6, 2) := by decide +kernel
theorem dX6_wouldBring_100 : decode cX6_wouldBring 100 = .ok (.ireturn, 1) := by decide +kernel
set_option maxHeartbeats 1000000 in
set_option maxRecDepth 100000 in
theorem c_X6_wouldBring (l : Launch) (G : GT) (q : Nat → Nat) (v : SV) (hs : Int64) (x1 : Int32) (x2 : Int32) (hq : mdD G q) (hI : SI (v 0)) : Met l yX6_wouldBring (Cond.code yX6_wouldBring cX6_wouldBring 7 (some .int) :: bigW) ({ frames := 6, cells := 0, slots := 0, locals := 141 }) (BP G [.ref (q 0), .int x1, .int x2] (fun U H => PW G (mdW G q v hs) H)) (QE (some (.int (fX6_wouldBring v x1 x2).2)) (fun H => PW G (mdW G q (fX6_wouldBring v x1 x2).1 hs) H) (mdA q)) 0 0 (mdA q) := by
  refine met_of (by decide) (Nat.le_of_ble_eq_true rfl) ?_
  intro p e s m below meth c ls hC hKN hB0 hl
  have hP := hB0
  have hl : lv_has ls 7 [(0, .ref (q 0)), (1, .int x1), (2, .int x2)] := hl
  have hS : va_S (mdA q) s.heap s.heap [] := va_S.rf
  have hAL : ∀ a, (mdA q) a → gL G ≤ a := mdD_low hq
  have hg : fX6_wouldBring v x1 x2 = fX6_wouldBring v x1 x2 := rfl
  refine lv_aload_n hC.1 hC.2.1 dX6_wouldBring_0 rfl (lv_at hl 0 rfl) ?_
  refine runE (rV (B := fun U H => PW G (mdW G q v hs) H) (As := []) (rest := []) hC mwX6_putAside (c_X6_putAside l G q v hs hq) iwX6_putAside wd_1162 ⟨rfl, rfl⟩ ⟨Nat.le_of_ble_eq_true rfl, Nat.le_of_ble_eq_true rfl⟩ (stb_h (fun H => PW G (mdW G q v hs) H)) hKN hP (va_recv hKN.k hP (ci := 6) (q0 := 0) rfl rfl) rfl hl.1 rfl (Nat.le_of_ble_eq_true rfl) dX6_wouldBring_1 ⟨Nat.zero_le _, Nat.zero_le _⟩) hS (fun _ h => h) (fun _ h => h) (fun H locs hq_1 _ _ hS => ?_)
  have hP : PW G (mdW G q (fX6_putAside v) hs) H := hq_1
  obtain ⟨r_2, er_2⟩ : ∃ z, z = fX6_putAside v := ⟨_, rfl⟩
  rw [← er_2] at hP
  have hI : SI (r_2 0) := by rw [er_2]; exact (SI_aside hI)
  refine lv_aload_n hC.1 hC.2.1 dX6_wouldBring_4 rfl (lv_at hl 0 rfl) ?_
  refine lv_bipush (v := 50) hC.1 hC.2.1 dX6_wouldBring_5 (by decide +kernel) ?_
  refine runP (rV (B := fun U H => PW G (mdW G q r_2 hs) H) (As := [.int 50]) (rest := []) hC mwX6_sum (c_X6_sum l G q r_2 hs 50 (by decide)) iwX6_sum wd_1039 ⟨rfl, rfl⟩ ⟨Nat.le_of_ble_eq_true rfl, Nat.le_of_ble_eq_true rfl⟩ (stb_h (fun H => PW G (mdW G q r_2 hs) H)) (hKN.go hAL hS) hP (va_recv (hKN.go hAL hS).k hP (ci := 6) (q0 := 0) rfl rfl) rfl hl.1 rfl (Nat.le_of_ble_eq_true rfl) dX6_wouldBring_7 ⟨Nat.zero_le _, Nat.zero_le _⟩) ?_
  refine lv_istore_n (lv' := [(3, .int (fX6_sum r_2 50)), (0, .ref (q 0)), (1, .int x1), (2, .int x2)]) hC.1 hC.2.1 dX6_wouldBring_10 rfl hl (by decide) rfl (fun ls hl => ?_)
  refine lv_aload_n hC.1 hC.2.1 dX6_wouldBring_11 rfl (lv_at hl 1 rfl) ?_
  refine runP (rV (B := fun U H => PW G (mdW G q r_2 hs) H) (As := []) (rest := []) hC mwX6_hottestNow (c_X6_hottestNow l G q r_2 hs) iwX6_hottestNow wd_1047 ⟨rfl, rfl⟩ ⟨Nat.le_of_ble_eq_true rfl, Nat.le_of_ble_eq_true rfl⟩ (stb_h (fun H => PW G (mdW G q r_2 hs) H)) (hKN.go hAL hS) hP (va_recv (hKN.go hAL hS).k hP (ci := 6) (q0 := 0) rfl rfl) rfl hl.1 rfl (Nat.le_of_ble_eq_true rfl) dX6_wouldBring_12 ⟨Nat.zero_le _, Nat.zero_le _⟩) ?_
  refine lv_istore (lv' := [(4, .int (fX6_hottestNow r_2)), (3, .int (fX6_sum r_2 50)), (0, .ref (q 0)), (1, .int x1), (2, .int x2)]) hC.1 hC.2.1 dX6_wouldBring_15 hl (by decide) rfl (fun ls hl => ?_)
  refine lv_aload_n hC.1 hC.2.1 dX6_wouldBring_17 rfl (lv_at hl 2 rfl) ?_
  refine lv_iload_n hC.1 hC.2.1 dX6_wouldBring_18 rfl (lv_at hl 3 rfl) ?_
  refine runE (rV (B := fun U H => PW G (mdW G q r_2 hs) H) (As := [.int x1]) (rest := []) hC mwX6_printLine (c_X6_printLine l G q r_2 hs x1 hq hI) iwX6_printLine wd_977 ⟨rfl, rfl⟩ ⟨Nat.le_of_ble_eq_true rfl, Nat.le_of_ble_eq_true rfl⟩ (stb_h (fun H => PW G (mdW G q r_2 hs) H)) (hKN.go hAL hS) hP (va_recv (hKN.go hAL hS).k hP (ci := 6) (q0 := 0) rfl rfl) rfl hl.1 rfl (Nat.le_of_ble_eq_true rfl) dX6_wouldBring_19 ⟨Nat.zero_le _, Nat.zero_le _⟩) hS (fun _ h => h) (fun _ h => h) (fun H locs hq_3 _ _ hS => ?_)
  have hP : PW G (mdW G q ((fX6_printLine r_2 x1).1) hs) H := hq_3
  obtain ⟨r_4, er_4⟩ : ∃ z, z = fX6_printLine r_2 x1 := ⟨_, rfl⟩
  rw [← er_4] at hP
  show W p l e ({ frames := 6, cells := 0, slots := 0, locals := 141 }) s m ([.ref (q 0), .int x1, .int x2] : List Value).toArray below meth c H locs (0 + 0) (0 + 0) _ (F0 m (19 + 3) ls [.int ((fX6_printLine r_2 x1).2)])
  rw [← er_4]
  have hI : SI (r_4.1 0) := by rw [er_4]; exact (KS (S_printLine _ _) hI)
  refine lv_istore (lv' := [(5, .int r_4.2), (4, .int (fX6_hottestNow r_2)), (3, .int (fX6_sum r_2 50)), (0, .ref (q 0)), (1, .int x1), (2, .int x2)]) hC.1 hC.2.1 dX6_wouldBring_22 hl (by decide) rfl (fun ls hl => ?_)
  refine lv_iload_n hC.1 hC.2.1 dX6_wouldBring_24 rfl (lv_at hl 5 rfl) ?_
  refine lv_if_ne (tgt := 33) hC.1 hC.2.1 dX6_wouldBring_25 (by decide) (fun k25 => ?_) (fun k25 => ?_)
  · refine lv_iload_n hC.1 hC.2.1 dX6_wouldBring_33 rfl (lv_at hl 5 rfl) ?_
    refine lv_iconst (v := 1) hC.1 hC.2.1 dX6_wouldBring_34 (by decide) ?_
    refine lv_icmp_ne (tgt := 45) hC.1 hC.2.1 dX6_wouldBring_35 (by decide) (fun k35 => ?_) (fun k35 => ?_)
    · refine lv_iload_n hC.1 hC.2.1 dX6_wouldBring_45 rfl (lv_at hl 5 rfl) ?_
      refine lv_iconst (v := 2) hC.1 hC.2.1 dX6_wouldBring_46 (by decide) ?_
      refine lv_icmp_ne (tgt := 58) hC.1 hC.2.1 dX6_wouldBring_47 (by decide) (fun k47 => ?_) (fun k47 => ?_)
      · refine lv_iload_n hC.1 hC.2.1 dX6_wouldBring_58 rfl (lv_at hl 5 rfl) ?_
        refine lv_iconst (v := 3) hC.1 hC.2.1 dX6_wouldBring_59 (by decide) ?_
        refine lv_icmp_ne (tgt := 74) hC.1 hC.2.1 dX6_wouldBring_60 (by decide) (fun k60 => ?_) (fun k60 => ?_)
        · refine lv_aload_n hC.1 hC.2.1 dX6_wouldBring_74 rfl (lv_at hl 3 rfl) ?_
          refine gf (v := .int (r_4.1 8 5)) hC fwX6 (hKN.go hAL hS) hP 0 rfl rfl 9 (by decide) rfl wd_896 rfl dX6_wouldBring_75 ?_
          refine lv_iload hC.1 hC.2.1 dX6_wouldBring_78 (lv_at hl 1 rfl) ?_
          refine lv_icmp_le (tgt := 90) hC.1 hC.2.1 dX6_wouldBring_80 (by decide) (fun k80 => ?_) (fun k80 => ?_)
          · refine lv_iload hC.1 hC.2.1 dX6_wouldBring_90 (lv_at hl 1 rfl) ?_
            refine lv_istore (lv' := [(6, .int (fX6_hottestNow r_2)), (5, .int r_4.2), (4, .int (fX6_hottestNow r_2)), (3, .int (fX6_sum r_2 50)), (0, .ref (q 0)), (1, .int x1), (2, .int x2)]) hC.1 hC.2.1 dX6_wouldBring_92 hl (by decide) rfl (fun ls hl => ?_)
            refine lv_aload_n hC.1 hC.2.1 dX6_wouldBring_94 rfl (lv_at hl 4 rfl) ?_
            refine runE (rV (B := fun U H => PW G (mdW G q r_4.1 hs) H) (As := []) (rest := []) hC mwX6_putBack (c_X6_putBack l G q r_4.1 hs hq) iwX6_putBack wd_1166 ⟨rfl, rfl⟩ ⟨Nat.le_of_ble_eq_true rfl, Nat.le_of_ble_eq_true rfl⟩ (stb_h (fun H => PW G (mdW G q r_4.1 hs) H)) (hKN.go hAL hS) hP (va_recv (hKN.go hAL hS).k hP (ci := 6) (q0 := 0) rfl rfl) rfl hl.1 rfl (Nat.le_of_ble_eq_true rfl) dX6_wouldBring_95 ⟨Nat.zero_le _, Nat.zero_le _⟩) hS (fun _ h => h) (fun _ h => h) (fun H locs hq_5 _ _ hS => ?_)
            have hP : PW G (mdW G q (fX6_putBack r_4.1) hs) H := hq_5
            obtain ⟨r_6, er_6⟩ : ∃ z, z = fX6_putBack r_4.1 := ⟨_, rfl⟩
            rw [← er_6] at hP
            have hI : True := trivial
            refine lv_iload hC.1 hC.2.1 dX6_wouldBring_98 (lv_at hl 0 rfl) ?_
            have e_7 : fX6_wouldBring v x1 x2 = (r_6, fX6_hottestNow r_2) := by have q_ := er_6.symm; subst q_; have q_ := er_4.symm; subst q_; have q_ := er_2.symm; subst q_; delta fX6_wouldBring; exact Eq.trans (if_neg k25) (Eq.trans (if_neg k35) (Eq.trans (if_neg k47) (Eq.trans (if_neg k60) (Eq.trans (if_pos k80) rfl))))
            have hg : fX6_wouldBring v x1 x2 = (r_6, fX6_hottestNow r_2) := by have e2 := congrArg (fun z => z) e_7; exact hg.trans e2
            exact eE_i hC (by rw [hg]) (by show PW G (mdW G q (fX6_wouldBring v x1 x2).1 hs) H; rw [hg]; exact hP) hS dX6_wouldBring_100
          · refine lv_aload_n hC.1 hC.2.1 dX6_wouldBring_83 rfl (lv_at hl 3 rfl) ?_
            refine gf (v := .int (r_4.1 8 5)) hC fwX6 (hKN.go hAL hS) hP 0 rfl rfl 9 (by decide) rfl wd_896 rfl dX6_wouldBring_84 ?_
            refine lv_goto (tgt := 92) hC.1 hC.2.1 dX6_wouldBring_87 (by decide) ?_
            refine lv_istore (lv' := [(6, .int (r_4.1 8 5)), (5, .int r_4.2), (4, .int (fX6_hottestNow r_2)), (3, .int (fX6_sum r_2 50)), (0, .ref (q 0)), (1, .int x1), (2, .int x2)]) hC.1 hC.2.1 dX6_wouldBring_92 hl (by decide) rfl (fun ls hl => ?_)
            refine lv_aload_n hC.1 hC.2.1 dX6_wouldBring_94 rfl (lv_at hl 4 rfl) ?_
            refine runE (rV (B := fun U H => PW G (mdW G q r_4.1 hs) H) (As := []) (rest := []) hC mwX6_putBack (c_X6_putBack l G q r_4.1 hs hq) iwX6_putBack wd_1166 ⟨rfl, rfl⟩ ⟨Nat.le_of_ble_eq_true rfl, Nat.le_of_ble_eq_true rfl⟩ (stb_h (fun H => PW G (mdW G q r_4.1 hs) H)) (hKN.go hAL hS) hP (va_recv (hKN.go hAL hS).k hP (ci := 6) (q0 := 0) rfl rfl) rfl hl.1 rfl (Nat.le_of_ble_eq_true rfl) dX6_wouldBring_95 ⟨Nat.zero_le _, Nat.zero_le _⟩) hS (fun _ h => h) (fun _ h => h) (fun H locs hq_8 _ _ hS => ?_)
            have hP : PW G (mdW G q (fX6_putBack r_4.1) hs) H := hq_8
            obtain ⟨r_9, er_9⟩ : ∃ z, z = fX6_putBack r_4.1 := ⟨_, rfl⟩
            rw [← er_9] at hP
            have hI : True := trivial
            refine lv_iload hC.1 hC.2.1 dX6_wouldBring_98 (lv_at hl 0 rfl) ?_
            have e_10 : fX6_wouldBring v x1 x2 = (r_9, r_4.1 8 5) := by have q_ := er_9.symm; subst q_; have q_ := er_4.symm; subst q_; have q_ := er_2.symm; subst q_; delta fX6_wouldBring; exact Eq.trans (if_neg k25) (Eq.trans (if_neg k35) (Eq.trans (if_neg k47) (Eq.trans (if_neg k60) (Eq.trans (if_neg k80) rfl))))
            have hg : fX6_wouldBring v x1 x2 = (r_9, r_4.1 8 5) := by have e2 := congrArg (fun z => z) e_10; exact hg.trans e2
            exact eE_i hC (by rw [hg]) (by show PW G (mdW G q (fX6_wouldBring v x1 x2).1 hs) H; rw [hg]; exact hP) hS dX6_wouldBring_100
        · refine lv_aload_n hC.1 hC.2.1 dX6_wouldBring_63 rfl (lv_at hl 3 rfl) ?_
          refine lv_bipush (v := 50) hC.1 hC.2.1 dX6_wouldBring_64 (by decide +kernel) ?_
          refine runP (rV (B := fun U H => PW G (mdW G q r_4.1 hs) H) (As := [.int 50]) (rest := []) hC mwX6_sum (c_X6_sum l G q r_4.1 hs 50 (by decide)) iwX6_sum wd_1039 ⟨rfl, rfl⟩ ⟨Nat.le_of_ble_eq_true rfl, Nat.le_of_ble_eq_true rfl⟩ (stb_h (fun H => PW G (mdW G q r_4.1 hs) H)) (hKN.go hAL hS) hP (va_recv (hKN.go hAL hS).k hP (ci := 6) (q0 := 0) rfl rfl) rfl hl.1 rfl (Nat.le_of_ble_eq_true rfl) dX6_wouldBring_66 ⟨Nat.zero_le _, Nat.zero_le _⟩) ?_
          refine lv_iload_n hC.1 hC.2.1 dX6_wouldBring_69 rfl (lv_at hl 2 rfl) ?_
          refine lv_isub hC.1 hC.2.1 dX6_wouldBring_70 ?_
          refine lv_goto (tgt := 92) hC.1 hC.2.1 dX6_wouldBring_71 (by decide) ?_
          refine lv_istore (lv' := [(6, .int ((fX6_sum r_4.1 50) - (fX6_sum r_2 50))), (5, .int r_4.2), (4, .int (fX6_hottestNow r_2)), (3, .int (fX6_sum r_2 50)), (0, .ref (q 0)), (1, .int x1), (2, .int x2)]) hC.1 hC.2.1 dX6_wouldBring_92 hl (by decide) rfl (fun ls hl => ?_)
          refine lv_aload_n hC.1 hC.2.1 dX6_wouldBring_94 rfl (lv_at hl 4 rfl) ?_
          refine runE (rV (B := fun U H => PW G (mdW G q r_4.1 hs) H) (As := []) (rest := []) hC mwX6_putBack (c_X6_putBack l G q r_4.1 hs hq) iwX6_putBack wd_1166 ⟨rfl, rfl⟩ ⟨Nat.le_of_ble_eq_true rfl, Nat.le_of_ble_eq_true rfl⟩ (stb_h (fun H => PW G (mdW G q r_4.1 hs) H)) (hKN.go hAL hS) hP (va_recv (hKN.go hAL hS).k hP (ci := 6) (q0 := 0) rfl rfl) rfl hl.1 rfl (Nat.le_of_ble_eq_true rfl) dX6_wouldBring_95 ⟨Nat.zero_le _, Nat.zero_le _⟩) hS (fun _ h => h) (fun _ h => h) (fun H locs hq_11 _ _ hS => ?_)
          have hP : PW G (mdW G q (fX6_putBack r_4.1) hs) H := hq_11
          obtain ⟨r_12, er_12⟩ : ∃ z, z = fX6_putBack r_4.1 := ⟨_, rfl⟩
          rw [← er_12] at hP
          have hI : True := trivial
          refine lv_iload hC.1 hC.2.1 dX6_wouldBring_98 (lv_at hl 0 rfl) ?_
          have e_13 : fX6_wouldBring v x1 x2 = (r_12, (fX6_sum r_4.1 50) - (fX6_sum r_2 50)) := by have q_ := er_12.symm; subst q_; have q_ := er_4.symm; subst q_; have q_ := er_2.symm; subst q_; delta fX6_wouldBring; exact Eq.trans (if_neg k25) (Eq.trans (if_neg k35) (Eq.trans (if_neg k47) (Eq.trans (if_pos k60) rfl)))
          have hg : fX6_wouldBring v x1 x2 = (r_12, (fX6_sum r_4.1 50) - (fX6_sum r_2 50)) := by have e2 := congrArg (fun z => z) e_13; exact hg.trans e2
          exact eE_i hC (by rw [hg]) (by show PW G (mdW G q (fX6_wouldBring v x1 x2).1 hs) H; rw [hg]; exact hP) hS dX6_wouldBring_100
      · refine lv_aload_n hC.1 hC.2.1 dX6_wouldBring_50 rfl (lv_at hl 3 rfl) ?_
        refine lv_iload_n hC.1 hC.2.1 dX6_wouldBring_51 rfl (lv_at hl 4 rfl) ?_
        refine runP (rV (B := fun U H => PW G (mdW G q r_4.1 hs) H) (As := [.int x1]) (rest := []) hC mwX6_partsOf (c_X6_partsOf l G q r_4.1 hs x1 hI) iwX6_partsOf wd_981 ⟨rfl, rfl⟩ ⟨Nat.le_of_ble_eq_true rfl, Nat.le_of_ble_eq_true rfl⟩ (stb_h (fun H => PW G (mdW G q r_4.1 hs) H)) (hKN.go hAL hS) hP (va_recv (hKN.go hAL hS).k hP (ci := 6) (q0 := 0) rfl rfl) rfl hl.1 rfl (Nat.le_of_ble_eq_true rfl) dX6_wouldBring_52 ⟨Nat.zero_le _, Nat.zero_le _⟩) ?_
        refine lv_goto (tgt := 92) hC.1 hC.2.1 dX6_wouldBring_55 (by decide) ?_
        refine lv_istore (lv' := [(6, .int (fX6_partsOf r_4.1 x1)), (5, .int r_4.2), (4, .int (fX6_hottestNow r_2)), (3, .int (fX6_sum r_2 50)), (0, .ref (q 0)), (1, .int x1), (2, .int x2)]) hC.1 hC.2.1 dX6_wouldBring_92 hl (by decide) rfl (fun ls hl => ?_)
        refine lv_aload_n hC.1 hC.2.1 dX6_wouldBring_94 rfl (lv_at hl 4 rfl) ?_
        refine runE (rV (B := fun U H => PW G (mdW G q r_4.1 hs) H) (As := []) (rest := []) hC mwX6_putBack (c_X6_putBack l G q r_4.1 hs hq) iwX6_putBack wd_1166 ⟨rfl, rfl⟩ ⟨Nat.le_of_ble_eq_true rfl, Nat.le_of_ble_eq_true rfl⟩ (stb_h (fun H => PW G (mdW G q r_4.1 hs) H)) (hKN.go hAL hS) hP (va_recv (hKN.go hAL hS).k hP (ci := 6) (q0 := 0) rfl rfl) rfl hl.1 rfl (Nat.le_of_ble_eq_true rfl) dX6_wouldBring_95 ⟨Nat.zero_le _, Nat.zero_le _⟩) hS (fun _ h => h) (fun _ h => h) (fun H locs hq_14 _ _ hS => ?_)
        have hP : PW G (mdW G q (fX6_putBack r_4.1) hs) H := hq_14
        obtain ⟨r_15, er_15⟩ : ∃ z, z = fX6_putBack r_4.1 := ⟨_, rfl⟩
        rw [← er_15] at hP
        have hI : True := trivial
        refine lv_iload hC.1 hC.2.1 dX6_wouldBring_98 (lv_at hl 0 rfl) ?_
        have e_16 : fX6_wouldBring v x1 x2 = (r_15, fX6_partsOf r_4.1 x1) := by have q_ := er_15.symm; subst q_; have q_ := er_4.symm; subst q_; have q_ := er_2.symm; subst q_; delta fX6_wouldBring; exact Eq.trans (if_neg k25) (Eq.trans (if_neg k35) (Eq.trans (if_pos k47) rfl))
        have hg : fX6_wouldBring v x1 x2 = (r_15, fX6_partsOf r_4.1 x1) := by have e2 := congrArg (fun z => z) e_16; exact hg.trans e2
        exact eE_i hC (by rw [hg]) (by show PW G (mdW G q (fX6_wouldBring v x1 x2).1 hs) H; rw [hg]; exact hP) hS dX6_wouldBring_100
    · refine lv_aload_n hC.1 hC.2.1 dX6_wouldBring_38 rfl (lv_at hl 3 rfl) ?_
      refine gf (v := .int (r_4.1 8 3)) hC fwX6 (hKN.go hAL hS) hP 0 rfl rfl 7 (by decide) rfl wd_894 rfl dX6_wouldBring_39 ?_
      refine lv_goto (tgt := 92) hC.1 hC.2.1 dX6_wouldBring_42 (by decide) ?_
      refine lv_istore (lv' := [(6, .int (r_4.1 8 3)), (5, .int r_4.2), (4, .int (fX6_hottestNow r_2)), (3, .int (fX6_sum r_2 50)), (0, .ref (q 0)), (1, .int x1), (2, .int x2)]) hC.1 hC.2.1 dX6_wouldBring_92 hl (by decide) rfl (fun ls hl => ?_)
      refine lv_aload_n hC.1 hC.2.1 dX6_wouldBring_94 rfl (lv_at hl 4 rfl) ?_
      refine runE (rV (B := fun U H => PW G (mdW G q r_4.1 hs) H) (As := []) (rest := []) hC mwX6_putBack (c_X6_putBack l G q r_4.1 hs hq) iwX6_putBack wd_1166 ⟨rfl, rfl⟩ ⟨Nat.le_of_ble_eq_true rfl, Nat.le_of_ble_eq_true rfl⟩ (stb_h (fun H => PW G (mdW G q r_4.1 hs) H)) (hKN.go hAL hS) hP (va_recv (hKN.go hAL hS).k hP (ci := 6) (q0 := 0) rfl rfl) rfl hl.1 rfl (Nat.le_of_ble_eq_true rfl) dX6_wouldBring_95 ⟨Nat.zero_le _, Nat.zero_le _⟩) hS (fun _ h => h) (fun _ h => h) (fun H locs hq_17 _ _ hS => ?_)
      have hP : PW G (mdW G q (fX6_putBack r_4.1) hs) H := hq_17
      obtain ⟨r_18, er_18⟩ : ∃ z, z = fX6_putBack r_4.1 := ⟨_, rfl⟩
      rw [← er_18] at hP
      have hI : True := trivial
      refine lv_iload hC.1 hC.2.1 dX6_wouldBring_98 (lv_at hl 0 rfl) ?_
      have e_19 : fX6_wouldBring v x1 x2 = (r_18, r_4.1 8 3) := by have q_ := er_18.symm; subst q_; have q_ := er_4.symm; subst q_; have q_ := er_2.symm; subst q_; delta fX6_wouldBring; exact Eq.trans (if_neg k25) (Eq.trans (if_pos k35) rfl)
      have hg : fX6_wouldBring v x1 x2 = (r_18, r_4.1 8 3) := by have e2 := congrArg (fun z => z) e_19; exact hg.trans e2
      exact eE_i hC (by rw [hg]) (by show PW G (mdW G q (fX6_wouldBring v x1 x2).1 hs) H; rw [hg]; exact hP) hS dX6_wouldBring_100
  · refine lv_iload hC.1 hC.2.1 dX6_wouldBring_28 (lv_at hl 0 rfl) ?_
    refine lv_goto (tgt := 92) hC.1 hC.2.1 dX6_wouldBring_30 (by decide) ?_
    refine lv_istore (lv' := [(6, .int r_4.2), (5, .int r_4.2), (4, .int (fX6_hottestNow r_2)), (3, .int (fX6_sum r_2 50)), (0, .ref (q 0)), (1, .int x1), (2, .int x2)]) hC.1 hC.2.1 dX6_wouldBring_92 hl (by decide) rfl (fun ls hl => ?_)
    refine lv_aload_n hC.1 hC.2.1 dX6_wouldBring_94 rfl (lv_at hl 4 rfl) ?_
    refine runE (rV (B := fun U H => PW G (mdW G q r_4.1 hs) H) (As := []) (rest := []) hC mwX6_putBack (c_X6_putBack l G q r_4.1 hs hq) iwX6_putBack wd_1166 ⟨rfl, rfl⟩ ⟨Nat.le_of_ble_eq_true rfl, Nat.le_of_ble_eq_true rfl⟩ (stb_h (fun H => PW G (mdW G q r_4.1 hs) H)) (hKN.go hAL hS) hP (va_recv (hKN.go hAL hS).k hP (ci := 6) (q0 := 0) rfl rfl) rfl hl.1 rfl (Nat.le_of_ble_eq_true rfl) dX6_wouldBring_95 ⟨Nat.zero_le _, Nat.zero_le _⟩) hS (fun _ h => h) (fun _ h => h) (fun H locs hq_20 _ _ hS => ?_)
    have hP : PW G (mdW G q (fX6_putBack r_4.1) hs) H := hq_20
    obtain ⟨r_21, er_21⟩ : ∃ z, z = fX6_putBack r_4.1 := ⟨_, rfl⟩
    rw [← er_21] at hP
    have hI : True := trivial
    refine lv_iload hC.1 hC.2.1 dX6_wouldBring_98 (lv_at hl 0 rfl) ?_
    have e_22 : fX6_wouldBring v x1 x2 = (r_21, r_4.2) := by have q_ := er_21.symm; subst q_; have q_ := er_4.symm; subst q_; have q_ := er_2.symm; subst q_; delta fX6_wouldBring; exact Eq.trans (if_pos k25) rfl
    have hg : fX6_wouldBring v x1 x2 = (r_21, r_4.2) := by have e2 := congrArg (fun z => z) e_22; exact hg.trans e2
    exact eE_i hC (by rw [hg]) (by show PW G (mdW G q (fX6_wouldBring v x1 x2).1 hs) H; rw [hg]; exact hP) hS dX6_wouldBring_100

theorem dX6_ifPrinted_0 : decode cX6_ifPrinted 0 = .ok (.aload_n 0, 1) := by decide +kernel
theorem dX6_ifPrinted_1 : decode cX6_ifPrinted 1 = .ok (.iconst 0, 1) := by decide +kernel
theorem dX6_ifPrinted_2 : decode cX6_ifPrinted 2 = .ok (.putfield 34, 3) := by decide +kernel
theorem dX6_ifPrinted_5 : decode cX6_ifPrinted 5 = .ok (.iload_n 1, 1) := by decide +kernel
theorem dX6_ifPrinted_6 : decode cX6_ifPrinted 6 = .ok (.invokestatic 111, 3) := by decide +kernel
theorem dX6_ifPrinted_9 : decode cX6_ifPrinted 9 = .ok (.ifCond .eq 21, 3) := by decide +kernel
theorem dX6_ifPrinted_12 : decode cX6_ifPrinted 12 = .ok (.iload_n 2, 1) := by decide +kernel
theorem dX6_ifPrinted_13 : decode cX6_ifPrinted 13 = .ok (.iconst 0, 1) := by decide +kernel
theorem dX6_ifPrinted_14 : decode cX6_ifPrinted 14 = .ok (.iconst 4, 1) := by decide +kernel
theorem dX6_ifPrinted_15 : decode cX6_ifPrinted 15 = .ok (.invokestatic 39, 3) := by decide +kernel
theorem dX6_ifPrinted_18 : decode cX6_ifPrinted 18 = .ok (.ifCond .eq 12, 3) := by decide +kernel
theorem dX6_ifPrinted_21 : decode cX6_ifPrinted 21 = .ok (.aload_n 0, 1) := by decide +kernel
theorem dX6_ifPrinted_22 : decode cX6_ifPrinted 22 = .ok (.iload_n 1, 1) := by decide +kernel
theorem dX6_ifPrinted_23 : decode cX6_ifPrinted 23 = .ok (.iload_n 2, 1) := by decide +kernel
theorem dX6_ifPrinted_24 : decode cX6_ifPrinted 24 = .ok (.invokevirtual 192, 3) := by decide +kernel
theorem dX6_ifPrinted_27 : decode cX6_ifPrinted 27 = .ok (.goto 8, 3) := by decide +kernel
theorem dX6_ifPrinted_30 : decode cX6_ifPrinted 30 = .ok (.aload_n 0, 1) := by decide +kernel
theorem dX6_ifPrinted_31 : decode cX6_ifPrinted 31 = .ok (.iconst 1, 1) := by decide +kernel
theorem dX6_ifPrinted_32 : decode cX6_ifPrinted 32 = .ok (.invokevirtual 46, 3) := by decide +kernel
theorem dX6_ifPrinted_35 : decode cX6_ifPrinted 35 = .ok (.ireturn, 1) := by decide +kernel
set_option maxHeartbeats 1000000 in
set_option maxRecDepth 100000 in
theorem c_X6_ifPrinted (l : Launch) (G : GT) (q : Nat → Nat) (v : SV) (hs : Int64) (x1 : Int32) (x2 : Int32) (hq : mdD G q) (hI : SI (v 0)) : Met l yX6_ifPrinted (Cond.code yX6_ifPrinted cX6_ifPrinted 3 (some .int) :: bigW) ({ frames := 7, cells := 0, slots := 0, locals := 167 }) (BP G [.ref (q 0), .int x1, .int x2] (fun U H => PW G (mdW G q v hs) H)) (QE (some (.int (fX6_ifPrinted v x1 x2).2)) (fun H => PW G (mdW G q (fX6_ifPrinted v x1 x2).1 hs) H) (mdA q)) 0 0 (mdA q) := by
  refine met_of (by decide) (Nat.le_of_ble_eq_true rfl) ?_
  intro p e s m below meth c ls hC hKN hB0 hl
  have hP := hB0
  have hl : lv_has ls 3 [(0, .ref (q 0)), (1, .int x1), (2, .int x2)] := hl
  have hS : va_S (mdA q) s.heap s.heap [] := va_S.rf
  have hAL : ∀ a, (mdA q) a → gL G ≤ a := mdD_low hq
  have hg : fX6_ifPrinted v x1 x2 = fX6_ifPrinted v x1 x2 := rfl
  refine lv_aload_n hC.1 hC.2.1 dX6_ifPrinted_0 rfl (lv_at hl 0 rfl) ?_
  refine lv_iconst (v := 0) hC.1 hC.2.1 dX6_ifPrinted_1 (by decide) ?_
  refine pf (v := .int 0) (tv := .int) hC fwX6 hKN hP (mdD_D hq v hs) hS 0 rfl rfl 6 (by decide) rfl wd_893 rfl rfl rfl (Nat.le_of_ble_eq_true rfl) dX6_ifPrinted_2 (fun H locs hq_1 hS => ?_)
  have hP : PW G (mdW G q (mkM (v 0) (v 1) (v 2) (v 3) (v 4) (v 5) (v 6) (v 7) (v 8 0) (v 8 1) 0 (v 8 3) (v 8 4) (v 8 5) (v 8 6) (v 8 7) (v 8 8)) hs) H := hq_1
  have hI : SI ((mkM (v 0) (v 1) (v 2) (v 3) (v 4) (v 5) (v 6) (v 7) (v 8 0) (v 8 1) 0 (v 8 3) (v 8 4) (v 8 5) (v 8 6) (v 8 7) (v 8 8)) 0) := hI
  refine lv_iload_n hC.1 hC.2.1 dX6_ifPrinted_5 rfl (lv_at hl 1 rfl) ?_
  refine runP (rS (B := fun U H => True) (As := [.int x1]) (rest := []) hC mwX6_isLine (c_X6_isLine l G x1) wd_971 wd_970 ⟨rfl, rfl⟩ ⟨Nat.le_of_ble_eq_true rfl, Nat.le_of_ble_eq_true rfl⟩ (fun _ _ _ _ h => h) (hKN.go hAL hS) trivial rfl hl.1 rfl (Nat.le_of_ble_eq_true rfl) dX6_ifPrinted_6 ⟨Nat.zero_le _, Nat.zero_le _⟩) ?_
  refine lv_if_eq (tgt := 30) hC.1 hC.2.1 dX6_ifPrinted_9 (by decide) (fun k9 => ?_) (fun k9 => ?_)
  · refine lv_aload_n hC.1 hC.2.1 dX6_ifPrinted_30 rfl (lv_at hl 0 rfl) ?_
    refine lv_iconst (v := 1) hC.1 hC.2.1 dX6_ifPrinted_31 (by decide) ?_
    refine runE (rV (B := fun U H => PW G (mdW G q (mkM (v 0) (v 1) (v 2) (v 3) (v 4) (v 5) (v 6) (v 7) (v 8 0) (v 8 1) 0 (v 8 3) (v 8 4) (v 8 5) (v 8 6) (v 8 7) (v 8 8)) hs) H) (As := [.int 1]) (rest := []) hC mwX6_fails (c_X6_fails l G q (mkM (v 0) (v 1) (v 2) (v 3) (v 4) (v 5) (v 6) (v 7) (v 8 0) (v 8 1) 0 (v 8 3) (v 8 4) (v 8 5) (v 8 6) (v 8 7) (v 8 8)) hs 1 hq) iwX6_fails wd_950 ⟨rfl, rfl⟩ ⟨Nat.le_of_ble_eq_true rfl, Nat.le_of_ble_eq_true rfl⟩ (stb_h (fun H => PW G (mdW G q (mkM (v 0) (v 1) (v 2) (v 3) (v 4) (v 5) (v 6) (v 7) (v 8 0) (v 8 1) 0 (v 8 3) (v 8 4) (v 8 5) (v 8 6) (v 8 7) (v 8 8)) hs) H)) (hKN.go hAL hS) hP (va_recv (hKN.go hAL hS).k hP (ci := 6) (q0 := 0) rfl rfl) rfl hl.1 rfl (Nat.le_of_ble_eq_true rfl) dX6_ifPrinted_32 ⟨Nat.zero_le _, Nat.zero_le _⟩) hS (fun _ h => h) (fun _ h => h) (fun H locs hq_2 _ _ hS => ?_)
    have hP : PW G (mdW G q ((fX6_fails (mkM (v 0) (v 1) (v 2) (v 3) (v 4) (v 5) (v 6) (v 7) (v 8 0) (v 8 1) 0 (v 8 3) (v 8 4) (v 8 5) (v 8 6) (v 8 7) (v 8 8)) 1).1) hs) H := hq_2
    obtain ⟨r_3, er_3⟩ : ∃ z, z = fX6_fails (mkM (v 0) (v 1) (v 2) (v 3) (v 4) (v 5) (v 6) (v 7) (v 8 0) (v 8 1) 0 (v 8 3) (v 8 4) (v 8 5) (v 8 6) (v 8 7) (v 8 8)) 1 := ⟨_, rfl⟩
    rw [← er_3] at hP
    show W p l e ({ frames := 7, cells := 0, slots := 0, locals := 167 }) s m ([.ref (q 0), .int x1, .int x2] : List Value).toArray below meth c H locs (0 + 0) (0 + 0) _ (F0 m (32 + 3) ls [.int ((fX6_fails (mkM (v 0) (v 1) (v 2) (v 3) (v 4) (v 5) (v 6) (v 7) (v 8 0) (v 8 1) 0 (v 8 3) (v 8 4) (v 8 5) (v 8 6) (v 8 7) (v 8 8)) 1).2)])
    rw [← er_3]
    have hI : True := trivial
    have e_4 : fX6_ifPrinted v x1 x2 = (r_3.1, r_3.2) := by have q_ := er_3.symm; subst q_; delta fX6_ifPrinted; exact Eq.trans (if_pos k9) rfl
    have hg : fX6_ifPrinted v x1 x2 = (r_3.1, r_3.2) := by have e2 := congrArg (fun z => z) e_4; exact hg.trans e2
    exact eE_i hC (by rw [hg]) (by show PW G (mdW G q (fX6_ifPrinted v x1 x2).1 hs) H; rw [hg]; exact hP) hS dX6_ifPrinted_35
  · refine lv_iload_n hC.1 hC.2.1 dX6_ifPrinted_12 rfl (lv_at hl 2 rfl) ?_
    refine lv_iconst (v := 0) hC.1 hC.2.1 dX6_ifPrinted_13 (by decide) ?_
    refine lv_iconst (v := 4) hC.1 hC.2.1 dX6_ifPrinted_14 (by decide) ?_
    refine runP (rS (B := fun U H => True) (As := [.int x2, .int 0, .int 4]) (rest := []) hC mwX6_in (c_X6_in l G x2 0 4) wd_975 wd_974 ⟨rfl, rfl⟩ ⟨Nat.le_of_ble_eq_true rfl, Nat.le_of_ble_eq_true rfl⟩ (fun _ _ _ _ h => h) (hKN.go hAL hS) trivial rfl hl.1 rfl (Nat.le_of_ble_eq_true rfl) dX6_ifPrinted_15 ⟨Nat.zero_le _, Nat.zero_le _⟩) ?_
    refine lv_if_eq (tgt := 30) hC.1 hC.2.1 dX6_ifPrinted_18 (by decide) (fun k18 => ?_) (fun k18 => ?_)
    · refine lv_aload_n hC.1 hC.2.1 dX6_ifPrinted_30 rfl (lv_at hl 0 rfl) ?_
      refine lv_iconst (v := 1) hC.1 hC.2.1 dX6_ifPrinted_31 (by decide) ?_
      refine runE (rV (B := fun U H => PW G (mdW G q (mkM (v 0) (v 1) (v 2) (v 3) (v 4) (v 5) (v 6) (v 7) (v 8 0) (v 8 1) 0 (v 8 3) (v 8 4) (v 8 5) (v 8 6) (v 8 7) (v 8 8)) hs) H) (As := [.int 1]) (rest := []) hC mwX6_fails (c_X6_fails l G q (mkM (v 0) (v 1) (v 2) (v 3) (v 4) (v 5) (v 6) (v 7) (v 8 0) (v 8 1) 0 (v 8 3) (v 8 4) (v 8 5) (v 8 6) (v 8 7) (v 8 8)) hs 1 hq) iwX6_fails wd_950 ⟨rfl, rfl⟩ ⟨Nat.le_of_ble_eq_true rfl, Nat.le_of_ble_eq_true rfl⟩ (stb_h (fun H => PW G (mdW G q (mkM (v 0) (v 1) (v 2) (v 3) (v 4) (v 5) (v 6) (v 7) (v 8 0) (v 8 1) 0 (v 8 3) (v 8 4) (v 8 5) (v 8 6) (v 8 7) (v 8 8)) hs) H)) (hKN.go hAL hS) hP (va_recv (hKN.go hAL hS).k hP (ci := 6) (q0 := 0) rfl rfl) rfl hl.1 rfl (Nat.le_of_ble_eq_true rfl) dX6_ifPrinted_32 ⟨Nat.zero_le _, Nat.zero_le _⟩) hS (fun _ h => h) (fun _ h => h) (fun H locs hq_5 _ _ hS => ?_)
      have hP : PW G (mdW G q ((fX6_fails (mkM (v 0) (v 1) (v 2) (v 3) (v 4) (v 5) (v 6) (v 7) (v 8 0) (v 8 1) 0 (v 8 3) (v 8 4) (v 8 5) (v 8 6) (v 8 7) (v 8 8)) 1).1) hs) H := hq_5
      obtain ⟨r_6, er_6⟩ : ∃ z, z = fX6_fails (mkM (v 0) (v 1) (v 2) (v 3) (v 4) (v 5) (v 6) (v 7) (v 8 0) (v 8 1) 0 (v 8 3) (v 8 4) (v 8 5) (v 8 6) (v 8 7) (v 8 8)) 1 := ⟨_, rfl⟩
      rw [← er_6] at hP
      show W p l e ({ frames := 7, cells := 0, slots := 0, locals := 167 }) s m ([.ref (q 0), .int x1, .int x2] : List Value).toArray below meth c H locs (0 + 0) (0 + 0) _ (F0 m (32 + 3) ls [.int ((fX6_fails (mkM (v 0) (v 1) (v 2) (v 3) (v 4) (v 5) (v 6) (v 7) (v 8 0) (v 8 1) 0 (v 8 3) (v 8 4) (v 8 5) (v 8 6) (v 8 7) (v 8 8)) 1).2)])
      rw [← er_6]
      have hI : True := trivial
      have e_7 : fX6_ifPrinted v x1 x2 = (r_6.1, r_6.2) := by have q_ := er_6.symm; subst q_; delta fX6_ifPrinted; exact Eq.trans (if_neg k9) (Eq.trans (if_pos k18) rfl)
      have hg : fX6_ifPrinted v x1 x2 = (r_6.1, r_6.2) := by have e2 := congrArg (fun z => z) e_7; exact hg.trans e2
      exact eE_i hC (by rw [hg]) (by show PW G (mdW G q (fX6_ifPrinted v x1 x2).1 hs) H; rw [hg]; exact hP) hS dX6_ifPrinted_35
    · refine lv_aload_n hC.1 hC.2.1 dX6_ifPrinted_21 rfl (lv_at hl 0 rfl) ?_
      refine lv_iload_n hC.1 hC.2.1 dX6_ifPrinted_22 rfl (lv_at hl 1 rfl) ?_
      refine lv_iload_n hC.1 hC.2.1 dX6_ifPrinted_23 rfl (lv_at hl 2 rfl) ?_
      refine runE (rV (B := fun U H => PW G (mdW G q (mkM (v 0) (v 1) (v 2) (v 3) (v 4) (v 5) (v 6) (v 7) (v 8 0) (v 8 1) 0 (v 8 3) (v 8 4) (v 8 5) (v 8 6) (v 8 7) (v 8 8)) hs) H) (As := [.int x1, .int x2]) (rest := []) hC mwX6_wouldBring (c_X6_wouldBring l G q (mkM (v 0) (v 1) (v 2) (v 3) (v 4) (v 5) (v 6) (v 7) (v 8 0) (v 8 1) 0 (v 8 3) (v 8 4) (v 8 5) (v 8 6) (v 8 7) (v 8 8)) hs x1 x2 hq hI) iwX6_wouldBring wd_1158 ⟨rfl, rfl⟩ ⟨Nat.le_of_ble_eq_true rfl, Nat.le_of_ble_eq_true rfl⟩ (stb_h (fun H => PW G (mdW G q (mkM (v 0) (v 1) (v 2) (v 3) (v 4) (v 5) (v 6) (v 7) (v 8 0) (v 8 1) 0 (v 8 3) (v 8 4) (v 8 5) (v 8 6) (v 8 7) (v 8 8)) hs) H)) (hKN.go hAL hS) hP (va_recv (hKN.go hAL hS).k hP (ci := 6) (q0 := 0) rfl rfl) rfl hl.1 rfl (Nat.le_of_ble_eq_true rfl) dX6_ifPrinted_24 ⟨Nat.zero_le _, Nat.zero_le _⟩) hS (fun _ h => h) (fun _ h => h) (fun H locs hq_8 _ _ hS => ?_)
      have hP : PW G (mdW G q ((fX6_wouldBring (mkM (v 0) (v 1) (v 2) (v 3) (v 4) (v 5) (v 6) (v 7) (v 8 0) (v 8 1) 0 (v 8 3) (v 8 4) (v 8 5) (v 8 6) (v 8 7) (v 8 8)) x1 x2).1) hs) H := hq_8
      obtain ⟨r_9, er_9⟩ : ∃ z, z = fX6_wouldBring (mkM (v 0) (v 1) (v 2) (v 3) (v 4) (v 5) (v 6) (v 7) (v 8 0) (v 8 1) 0 (v 8 3) (v 8 4) (v 8 5) (v 8 6) (v 8 7) (v 8 8)) x1 x2 := ⟨_, rfl⟩
      rw [← er_9] at hP
      show W p l e ({ frames := 7, cells := 0, slots := 0, locals := 167 }) s m ([.ref (q 0), .int x1, .int x2] : List Value).toArray below meth c H locs (0 + 0) (0 + 0) _ (F0 m (24 + 3) ls [.int ((fX6_wouldBring (mkM (v 0) (v 1) (v 2) (v 3) (v 4) (v 5) (v 6) (v 7) (v 8 0) (v 8 1) 0 (v 8 3) (v 8 4) (v 8 5) (v 8 6) (v 8 7) (v 8 8)) x1 x2).2)])
      rw [← er_9]
      have hI : True := trivial
      refine lv_goto (tgt := 35) hC.1 hC.2.1 dX6_ifPrinted_27 (by decide) ?_
      have e_10 : fX6_ifPrinted v x1 x2 = (r_9.1, r_9.2) := by have q_ := er_9.symm; subst q_; delta fX6_ifPrinted; exact Eq.trans (if_neg k9) (Eq.trans (if_neg k18) rfl)
      have hg : fX6_ifPrinted v x1 x2 = (r_9.1, r_9.2) := by have e2 := congrArg (fun z => z) e_10; exact hg.trans e2
      exact eE_i hC (by rw [hg]) (by show PW G (mdW G q (fX6_ifPrinted v x1 x2).1 hs) H; rw [hg]; exact hP) hS dX6_ifPrinted_35

theorem dX6_better_0 : decode cX6_better 0 = .ok (.aload_n 0, 1) := by decide +kernel
theorem dX6_better_1 : decode cX6_better 1 = .ok (.getfield 7, 3) := by decide +kernel
theorem dX6_better_4 : decode cX6_better 4 = .ok (.bipush 79, 2) := by decide +kernel
theorem dX6_better_6 : decode cX6_better 6 = .ok (.iaload, 1) := by decide +kernel
theorem dX6_better_7 : decode cX6_better 7 = .ok (.istore_n 2, 1) := by decide +kernel
theorem dX6_better_8 : decode cX6_better 8 = .ok (.aload_n 0, 1) := by decide +kernel
theorem dX6_better_9 : decode cX6_better 9 = .ok (.getfield 7, 3) := by decide +kernel
theorem dX6_better_12 : decode cX6_better 12 = .ok (.bipush 79, 2) := by decide +kernel
theorem dX6_better_14 : decode cX6_better 14 = .ok (.iconst 0, 1) := by decide +kernel
theorem dX6_better_15 : decode cX6_better 15 = .ok (.iastore, 1) := by decide +kernel
theorem dX6_better_16 : decode cX6_better 16 = .ok (.aload_n 0, 1) := by decide +kernel
theorem dX6_better_17 : decode cX6_better 17 = .ok (.iload_n 1, 1) := by decide +kernel
theorem dX6_better_18 : decode cX6_better 18 = .ok (.iconst 0, 1) := by decide +kernel
theorem dX6_better_19 : decode cX6_better 19 = .ok (.invokevirtual 192, 3) := by decide +kernel
theorem dX6_better_22 : decode cX6_better 22 = .ok (.istore_n 3, 1) := by decide +kernel
theorem dX6_better_23 : decode cX6_better 23 = .ok (.aload_n 0, 1) := by decide +kernel
theorem dX6_better_24 : decode cX6_better 24 = .ok (.getfield 7, 3) := by decide +kernel
theorem dX6_better_27 : decode cX6_better 27 = .ok (.bipush 79, 2) := by decide +kernel
theorem dX6_better_29 : decode cX6_better 29 = .ok (.iconst 1, 1) := by decide +kernel
theorem dX6_better_30 : decode cX6_better 30 = .ok (.iastore, 1) := by decide +kernel
theorem dX6_better_31 : decode cX6_better 31 = .ok (.aload_n 0, 1) := by decide +kernel
theorem dX6_better_32 : decode cX6_better 32 = .ok (.iload_n 1, 1) := by decide +kernel
theorem dX6_better_33 : decode cX6_better 33 = .ok (.iconst 0, 1) := by decide +kernel
theorem dX6_better_34 : decode cX6_better 34 = .ok (.invokevirtual 192, 3) := by decide +kernel
theorem dX6_better_37 : decode cX6_better 37 = .ok (.istore 4, 2) := by decide +kernel
theorem dX6_better_39 : decode cX6_better 39 = .ok (.aload_n 0, 1) := by decide +kernel
theorem dX6_better_40 : decode cX6_better 40 = .ok (.getfield 7, 3) := by decide +kernel
theorem dX6_better_43 : decode cX6_better 43 = .ok (.bipush 79, 2) := by decide +kernel
theorem dX6_better_45 : decode cX6_better 45 = .ok (.iload_n 2, 1) := by decide +kernel
theorem dX6_better_46 : decode cX6_better 46 = .ok (.iastore, 1) := by decide +kernel
theorem dX6_better_47 : decode cX6_better 47 = .ok (.iload 4, 2) := by decide +kernel
theorem dX6_better_49 : decode cX6_better 49 = .ok (.iload_n 3, 1) := by decide +kernel
theorem dX6_better_50 : decode cX6_better 50 = .ok (.if_icmp .ge 7, 3) := by decide +kernel
theorem dX6_better_53 : decode cX6_better 53 = .ok (.iconst 1, 1) := by decide +kernel
theorem dX6_better_54 : decode cX6_better 54 = .ok (.goto 4, 3) := by decide +kernel
theorem dX6_better_57 : decode cX6_better 57 = .ok (.iconst 0, 1) := by decide +kernel
theorem dX6_better_58 : decode cX6_better 58 = .ok (.ireturn, 1) := by decide +kernel
set_option maxHeartbeats 1000000 in
set_option maxRecDepth 100000 in
theorem c_X6_better (l : Launch) (G : GT) (q : Nat → Nat) (v : SV) (hs : Int64) (x1 : Int32) (hq : mdD G q) (hI : SI (v 0)) : Met l yX6_better (Cond.code yX6_better cX6_better 5 (some .int) :: bigW) ({ frames := 7, cells := 0, slots := 0, locals := 167 }) (BP G [.ref (q 0), .int x1] (fun U H => PW G (mdW G q v hs) H)) (QE (some (.int (fX6_better v x1).2)) (fun H => PW G (mdW G q (fX6_better v x1).1 hs) H) (mdA q)) 0 0 (mdA q) := by
  refine met_of (by decide) (Nat.le_of_ble_eq_true rfl) ?_
  intro p e s m below meth c ls hC hKN hB0 hl
  have hP := hB0
  have hl : lv_has ls 5 [(0, .ref (q 0)), (1, .int x1)] := hl
  have hS : va_S (mdA q) s.heap s.heap [] := va_S.rf
  have hAL : ∀ a, (mdA q) a → gL G ≤ a := mdD_low hq
  have hg : fX6_better v x1 = fX6_better v x1 := rfl
  refine lv_aload_n hC.1 hC.2.1 dX6_better_0 rfl (lv_at hl 0 rfl) ?_
  refine gf (v := .ref (q 1)) hC fwX6 hKN hP 0 rfl rfl 0 (by decide) rfl wd_887 rfl dX6_better_1 ?_
  refine lv_bipush (v := 79) hC.1 hC.2.1 dX6_better_4 (by decide +kernel) ?_
  refine iald_k hC hKN hP 1 rfl (n := 124) (f := (v 0)) 79 (rfl) (by omega) (by decide) dX6_better_6 ?_
  refine lv_istore_n (lv' := [(2, .int ((v 0) 79)), (0, .ref (q 0)), (1, .int x1)]) hC.1 hC.2.1 dX6_better_7 rfl hl (by decide) rfl (fun ls hl => ?_)
  refine lv_aload_n hC.1 hC.2.1 dX6_better_8 rfl (lv_at hl 1 rfl) ?_
  refine gf (v := .ref (q 1)) hC fwX6 hKN hP 0 rfl rfl 0 (by decide) rfl wd_887 rfl dX6_better_9 ?_
  refine lv_bipush (v := 79) hC.1 hC.2.1 dX6_better_12 (by decide +kernel) ?_
  refine lv_iconst (v := 0) hC.1 hC.2.1 dX6_better_14 (by decide) ?_
  refine iast_k hC hKN hP (mdD_D hq v hs) hS 1 rfl (n := 124) (f := (v 0)) 79 (rfl) (by omega) (by decide) dX6_better_15 (fun H locs hq_1 hS => ?_)
  have hP : PW G (mdW G q (mkM (upd (v 0) 79 0) (v 1) (v 2) (v 3) (v 4) (v 5) (v 6) (v 7) (v 8 0) (v 8 1) (v 8 2) (v 8 3) (v 8 4) (v 8 5) (v 8 6) (v 8 7) (v 8 8)) hs) H := hq_1
  have hI : SI ((mkM (upd (v 0) 79 0) (v 1) (v 2) (v 3) (v 4) (v 5) (v 6) (v 7) (v 8 0) (v 8 1) (v 8 2) (v 8 3) (v 8 4) (v 8 5) (v 8 6) (v 8 7) (v 8 8)) 0) := (SI_way hI ⟨0, by omega, rfl⟩)
  refine lv_aload_n hC.1 hC.2.1 dX6_better_16 rfl (lv_at hl 1 rfl) ?_
  refine lv_iload_n hC.1 hC.2.1 dX6_better_17 rfl (lv_at hl 2 rfl) ?_
  refine lv_iconst (v := 0) hC.1 hC.2.1 dX6_better_18 (by decide) ?_
  refine runE (rV (B := fun U H => PW G (mdW G q (mkM (upd (v 0) 79 0) (v 1) (v 2) (v 3) (v 4) (v 5) (v 6) (v 7) (v 8 0) (v 8 1) (v 8 2) (v 8 3) (v 8 4) (v 8 5) (v 8 6) (v 8 7) (v 8 8)) hs) H) (As := [.int x1, .int 0]) (rest := []) hC mwX6_wouldBring (c_X6_wouldBring l G q (mkM (upd (v 0) 79 0) (v 1) (v 2) (v 3) (v 4) (v 5) (v 6) (v 7) (v 8 0) (v 8 1) (v 8 2) (v 8 3) (v 8 4) (v 8 5) (v 8 6) (v 8 7) (v 8 8)) hs x1 0 hq hI) iwX6_wouldBring wd_1158 ⟨rfl, rfl⟩ ⟨Nat.le_of_ble_eq_true rfl, Nat.le_of_ble_eq_true rfl⟩ (stb_h (fun H => PW G (mdW G q (mkM (upd (v 0) 79 0) (v 1) (v 2) (v 3) (v 4) (v 5) (v 6) (v 7) (v 8 0) (v 8 1) (v 8 2) (v 8 3) (v 8 4) (v 8 5) (v 8 6) (v 8 7) (v 8 8)) hs) H)) (hKN.go hAL hS) hP (va_recv (hKN.go hAL hS).k hP (ci := 6) (q0 := 0) rfl rfl) rfl hl.1 rfl (Nat.le_of_ble_eq_true rfl) dX6_better_19 ⟨Nat.zero_le _, Nat.zero_le _⟩) hS (fun _ h => h) (fun _ h => h) (fun H locs hq_2 _ _ hS => ?_)
  have hP : PW G (mdW G q ((fX6_wouldBring (mkM (upd (v 0) 79 0) (v 1) (v 2) (v 3) (v 4) (v 5) (v 6) (v 7) (v 8 0) (v 8 1) (v 8 2) (v 8 3) (v 8 4) (v 8 5) (v 8 6) (v 8 7) (v 8 8)) x1 0).1) hs) H := hq_2
  obtain ⟨r_3, er_3⟩ : ∃ z, z = fX6_wouldBring (mkM (upd (v 0) 79 0) (v 1) (v 2) (v 3) (v 4) (v 5) (v 6) (v 7) (v 8 0) (v 8 1) (v 8 2) (v 8 3) (v 8 4) (v 8 5) (v 8 6) (v 8 7) (v 8 8)) x1 0 := ⟨_, rfl⟩
  rw [← er_3] at hP
  show W p l e ({ frames := 7, cells := 0, slots := 0, locals := 167 }) s m ([.ref (q 0), .int x1] : List Value).toArray below meth c H locs (0 + 0) (0 + 0) _ (F0 m (19 + 3) ls [.int ((fX6_wouldBring (mkM (upd (v 0) 79 0) (v 1) (v 2) (v 3) (v 4) (v 5) (v 6) (v 7) (v 8 0) (v 8 1) (v 8 2) (v 8 3) (v 8 4) (v 8 5) (v 8 6) (v 8 7) (v 8 8)) x1 0).2)])
  rw [← er_3]
  have hI : SI (r_3.1 0) := by rw [er_3]; exact (SI_row hI (WB_row _ _ _))
  refine lv_istore_n (lv' := [(3, .int r_3.2), (2, .int ((v 0) 79)), (0, .ref (q 0)), (1, .int x1)]) hC.1 hC.2.1 dX6_better_22 rfl hl (by decide) rfl (fun ls hl => ?_)
  refine lv_aload_n hC.1 hC.2.1 dX6_better_23 rfl (lv_at hl 2 rfl) ?_
  refine gf (v := .ref (q 1)) hC fwX6 (hKN.go hAL hS) hP 0 rfl rfl 0 (by decide) rfl wd_887 rfl dX6_better_24 ?_
  refine lv_bipush (v := 79) hC.1 hC.2.1 dX6_better_27 (by decide +kernel) ?_
  refine lv_iconst (v := 1) hC.1 hC.2.1 dX6_better_29 (by decide) ?_
  refine iast_k hC (hKN.go hAL hS) hP (mdD_D hq r_3.1 hs) hS 1 rfl (n := 124) (f := (r_3.1 0)) 79 (rfl) (by omega) (by decide) dX6_better_30 (fun H locs hq_4 hS => ?_)
  have hP : PW G (mdW G q (mkM (upd (r_3.1 0) 79 1) (r_3.1 1) (r_3.1 2) (r_3.1 3) (r_3.1 4) (r_3.1 5) (r_3.1 6) (r_3.1 7) (r_3.1 8 0) (r_3.1 8 1) (r_3.1 8 2) (r_3.1 8 3) (r_3.1 8 4) (r_3.1 8 5) (r_3.1 8 6) (r_3.1 8 7) (r_3.1 8 8)) hs) H := hq_4
  have hI : SI ((mkM (upd (r_3.1 0) 79 1) (r_3.1 1) (r_3.1 2) (r_3.1 3) (r_3.1 4) (r_3.1 5) (r_3.1 6) (r_3.1 7) (r_3.1 8 0) (r_3.1 8 1) (r_3.1 8 2) (r_3.1 8 3) (r_3.1 8 4) (r_3.1 8 5) (r_3.1 8 6) (r_3.1 8 7) (r_3.1 8 8)) 0) := (SI_way hI ⟨1, by omega, rfl⟩)
  refine lv_aload_n hC.1 hC.2.1 dX6_better_31 rfl (lv_at hl 2 rfl) ?_
  refine lv_iload_n hC.1 hC.2.1 dX6_better_32 rfl (lv_at hl 3 rfl) ?_
  refine lv_iconst (v := 0) hC.1 hC.2.1 dX6_better_33 (by decide) ?_
  refine runE (rV (B := fun U H => PW G (mdW G q (mkM (upd (r_3.1 0) 79 1) (r_3.1 1) (r_3.1 2) (r_3.1 3) (r_3.1 4) (r_3.1 5) (r_3.1 6) (r_3.1 7) (r_3.1 8 0) (r_3.1 8 1) (r_3.1 8 2) (r_3.1 8 3) (r_3.1 8 4) (r_3.1 8 5) (r_3.1 8 6) (r_3.1 8 7) (r_3.1 8 8)) hs) H) (As := [.int x1, .int 0]) (rest := []) hC mwX6_wouldBring (c_X6_wouldBring l G q (mkM (upd (r_3.1 0) 79 1) (r_3.1 1) (r_3.1 2) (r_3.1 3) (r_3.1 4) (r_3.1 5) (r_3.1 6) (r_3.1 7) (r_3.1 8 0) (r_3.1 8 1) (r_3.1 8 2) (r_3.1 8 3) (r_3.1 8 4) (r_3.1 8 5) (r_3.1 8 6) (r_3.1 8 7) (r_3.1 8 8)) hs x1 0 hq hI) iwX6_wouldBring wd_1158 ⟨rfl, rfl⟩ ⟨Nat.le_of_ble_eq_true rfl, Nat.le_of_ble_eq_true rfl⟩ (stb_h (fun H => PW G (mdW G q (mkM (upd (r_3.1 0) 79 1) (r_3.1 1) (r_3.1 2) (r_3.1 3) (r_3.1 4) (r_3.1 5) (r_3.1 6) (r_3.1 7) (r_3.1 8 0) (r_3.1 8 1) (r_3.1 8 2) (r_3.1 8 3) (r_3.1 8 4) (r_3.1 8 5) (r_3.1 8 6) (r_3.1 8 7) (r_3.1 8 8)) hs) H)) (hKN.go hAL hS) hP (va_recv (hKN.go hAL hS).k hP (ci := 6) (q0 := 0) rfl rfl) rfl hl.1 rfl (Nat.le_of_ble_eq_true rfl) dX6_better_34 ⟨Nat.zero_le _, Nat.zero_le _⟩) hS (fun _ h => h) (fun _ h => h) (fun H locs hq_5 _ _ hS => ?_)
  have hP : PW G (mdW G q ((fX6_wouldBring (mkM (upd (r_3.1 0) 79 1) (r_3.1 1) (r_3.1 2) (r_3.1 3) (r_3.1 4) (r_3.1 5) (r_3.1 6) (r_3.1 7) (r_3.1 8 0) (r_3.1 8 1) (r_3.1 8 2) (r_3.1 8 3) (r_3.1 8 4) (r_3.1 8 5) (r_3.1 8 6) (r_3.1 8 7) (r_3.1 8 8)) x1 0).1) hs) H := hq_5
  obtain ⟨r_6, er_6⟩ : ∃ z, z = fX6_wouldBring (mkM (upd (r_3.1 0) 79 1) (r_3.1 1) (r_3.1 2) (r_3.1 3) (r_3.1 4) (r_3.1 5) (r_3.1 6) (r_3.1 7) (r_3.1 8 0) (r_3.1 8 1) (r_3.1 8 2) (r_3.1 8 3) (r_3.1 8 4) (r_3.1 8 5) (r_3.1 8 6) (r_3.1 8 7) (r_3.1 8 8)) x1 0 := ⟨_, rfl⟩
  rw [← er_6] at hP
  show W p l e ({ frames := 7, cells := 0, slots := 0, locals := 167 }) s m ([.ref (q 0), .int x1] : List Value).toArray below meth c H locs (0 + 0) (0 + 0) _ (F0 m (34 + 3) ls [.int ((fX6_wouldBring (mkM (upd (r_3.1 0) 79 1) (r_3.1 1) (r_3.1 2) (r_3.1 3) (r_3.1 4) (r_3.1 5) (r_3.1 6) (r_3.1 7) (r_3.1 8 0) (r_3.1 8 1) (r_3.1 8 2) (r_3.1 8 3) (r_3.1 8 4) (r_3.1 8 5) (r_3.1 8 6) (r_3.1 8 7) (r_3.1 8 8)) x1 0).2)])
  rw [← er_6]
  have hI : SI (r_6.1 0) := by rw [er_6]; exact (SI_row hI (WB_row _ _ _))
  refine lv_istore (lv' := [(4, .int r_6.2), (3, .int r_3.2), (2, .int ((v 0) 79)), (0, .ref (q 0)), (1, .int x1)]) hC.1 hC.2.1 dX6_better_37 hl (by decide) rfl (fun ls hl => ?_)
  refine lv_aload_n hC.1 hC.2.1 dX6_better_39 rfl (lv_at hl 3 rfl) ?_
  refine gf (v := .ref (q 1)) hC fwX6 (hKN.go hAL hS) hP 0 rfl rfl 0 (by decide) rfl wd_887 rfl dX6_better_40 ?_
  refine lv_bipush (v := 79) hC.1 hC.2.1 dX6_better_43 (by decide +kernel) ?_
  refine lv_iload_n hC.1 hC.2.1 dX6_better_45 rfl (lv_at hl 2 rfl) ?_
  refine lv_topi (fun w_7 ew_7 => ?_)
  refine iast_k hC (hKN.go hAL hS) hP (mdD_D hq r_6.1 hs) hS 1 rfl (n := 124) (f := (r_6.1 0)) 79 (rfl) (by omega) (by decide) dX6_better_46 (fun H locs hq_8 hS => ?_)
  have hP : PW G (mdW G q (mkM (upd (r_6.1 0) 79 w_7) (r_6.1 1) (r_6.1 2) (r_6.1 3) (r_6.1 4) (r_6.1 5) (r_6.1 6) (r_6.1 7) (r_6.1 8 0) (r_6.1 8 1) (r_6.1 8 2) (r_6.1 8 3) (r_6.1 8 4) (r_6.1 8 5) (r_6.1 8 6) (r_6.1 8 7) (r_6.1 8 8)) hs) H := hq_8
  have hI : True := trivial
  refine lv_iload hC.1 hC.2.1 dX6_better_47 (lv_at hl 0 rfl) ?_
  refine lv_iload_n hC.1 hC.2.1 dX6_better_49 rfl (lv_at hl 1 rfl) ?_
  refine lv_icmp_ge (tgt := 57) hC.1 hC.2.1 dX6_better_50 (by decide) (fun k50 => ?_) (fun k50 => ?_)
  · refine lv_iconst (v := 0) hC.1 hC.2.1 dX6_better_57 (by decide) ?_
    have e_9 : fX6_better v x1 = (mkM (upd (r_6.1 0) 79 w_7) (r_6.1 1) (r_6.1 2) (r_6.1 3) (r_6.1 4) (r_6.1 5) (r_6.1 6) (r_6.1 7) (r_6.1 8 0) (r_6.1 8 1) (r_6.1 8 2) (r_6.1 8 3) (r_6.1 8 4) (r_6.1 8 5) (r_6.1 8 6) (r_6.1 8 7) (r_6.1 8 8), 0) := by have q_ := ew_7.symm; subst q_; have q_ := er_6.symm; subst q_; have q_ := er_3.symm; subst q_; delta fX6_better; exact Eq.trans (if_pos k50) rfl
    have hg : fX6_better v x1 = (mkM (upd (r_6.1 0) 79 w_7) (r_6.1 1) (r_6.1 2) (r_6.1 3) (r_6.1 4) (r_6.1 5) (r_6.1 6) (r_6.1 7) (r_6.1 8 0) (r_6.1 8 1) (r_6.1 8 2) (r_6.1 8 3) (r_6.1 8 4) (r_6.1 8 5) (r_6.1 8 6) (r_6.1 8 7) (r_6.1 8 8), 0) := by have e2 := congrArg (fun z => z) e_9; exact hg.trans e2
    exact eE_i hC (by rw [hg]) (by show PW G (mdW G q (fX6_better v x1).1 hs) H; rw [hg]; exact hP) hS dX6_better_58
  · refine lv_iconst (v := 1) hC.1 hC.2.1 dX6_better_53 (by decide) ?_
    refine lv_goto (tgt := 58) hC.1 hC.2.1 dX6_better_54 (by decide) ?_
    have e_10 : fX6_better v x1 = (mkM (upd (r_6.1 0) 79 w_7) (r_6.1 1) (r_6.1 2) (r_6.1 3) (r_6.1 4) (r_6.1 5) (r_6.1 6) (r_6.1 7) (r_6.1 8 0) (r_6.1 8 1) (r_6.1 8 2) (r_6.1 8 3) (r_6.1 8 4) (r_6.1 8 5) (r_6.1 8 6) (r_6.1 8 7) (r_6.1 8 8), 1) := by have q_ := ew_7.symm; subst q_; have q_ := er_6.symm; subst q_; have q_ := er_3.symm; subst q_; delta fX6_better; exact Eq.trans (if_neg k50) rfl
    have hg : fX6_better v x1 = (mkM (upd (r_6.1 0) 79 w_7) (r_6.1 1) (r_6.1 2) (r_6.1 3) (r_6.1 4) (r_6.1 5) (r_6.1 6) (r_6.1 7) (r_6.1 8 0) (r_6.1 8 1) (r_6.1 8 2) (r_6.1 8 3) (r_6.1 8 4) (r_6.1 8 5) (r_6.1 8 6) (r_6.1 8 7) (r_6.1 8 8), 1) := by have e2 := congrArg (fun z => z) e_10; exact hg.trans e2
    exact eE_i hC (by rw [hg]) (by show PW G (mdW G q (fX6_better v x1).1 hs) H; rw [hg]; exact hP) hS dX6_better_58

theorem dX6_betterWay_0 : decode cX6_betterWay 0 = .ok (.aload_n 0, 1) := by decide +kernel
theorem dX6_betterWay_1 : decode cX6_betterWay 1 = .ok (.iconst 0, 1) := by decide +kernel
theorem dX6_betterWay_2 : decode cX6_betterWay 2 = .ok (.putfield 34, 3) := by decide +kernel
theorem dX6_betterWay_5 : decode cX6_betterWay 5 = .ok (.iload_n 1, 1) := by decide +kernel
theorem dX6_betterWay_6 : decode cX6_betterWay 6 = .ok (.invokestatic 111, 3) := by decide +kernel
theorem dX6_betterWay_9 : decode cX6_betterWay 9 = .ok (.ifCond .eq 11, 3) := by decide +kernel
theorem dX6_betterWay_12 : decode cX6_betterWay 12 = .ok (.aload_n 0, 1) := by decide +kernel
theorem dX6_betterWay_13 : decode cX6_betterWay 13 = .ok (.iload_n 1, 1) := by decide +kernel
theorem dX6_betterWay_14 : decode cX6_betterWay 14 = .ok (.invokevirtual 195, 3) := by decide +kernel
theorem dX6_betterWay_17 : decode cX6_betterWay 17 = .ok (.goto 8, 3) := by decide +kernel
theorem dX6_betterWay_20 : decode cX6_betterWay 20 = .ok (.aload_n 0, 1) := by decide +kernel
theorem dX6_betterWay_21 : decode cX6_betterWay 21 = .ok (.iconst 1, 1) := by decide +kernel
theorem dX6_betterWay_22 : decode cX6_betterWay 22 = .ok (.invokevirtual 46, 3) := by decide +kernel
theorem dX6_betterWay_25 : decode cX6_betterWay 25 = .ok (.ireturn, 1) := by decide +kernel
set_option maxHeartbeats 1000000 in
set_option maxRecDepth 100000 in
theorem c_X6_betterWay (l : Launch) (G : GT) (q : Nat → Nat) (v : SV) (hs : Int64) (x1 : Int32) (hq : mdD G q) (hI : SI (v 0)) : Met l yX6_betterWay (Cond.code yX6_betterWay cX6_betterWay 2 (some .int) :: bigW) ({ frames := 8, cells := 0, slots := 0, locals := 191 }) (BP G [.ref (q 0), .int x1] (fun U H => PW G (mdW G q v hs) H)) (QE (some (.int (fX6_betterWay v x1).2)) (fun H => PW G (mdW G q (fX6_betterWay v x1).1 hs) H) (mdA q)) 0 0 (mdA q) := by
  refine met_of (by decide) (Nat.le_of_ble_eq_true rfl) ?_
  intro p e s m below meth c ls hC hKN hB0 hl
  have hP := hB0
  have hl : lv_has ls 2 [(0, .ref (q 0)), (1, .int x1)] := hl
  have hS : va_S (mdA q) s.heap s.heap [] := va_S.rf
  have hAL : ∀ a, (mdA q) a → gL G ≤ a := mdD_low hq
  have hg : fX6_betterWay v x1 = fX6_betterWay v x1 := rfl
  refine lv_aload_n hC.1 hC.2.1 dX6_betterWay_0 rfl (lv_at hl 0 rfl) ?_
  refine lv_iconst (v := 0) hC.1 hC.2.1 dX6_betterWay_1 (by decide) ?_
  refine pf (v := .int 0) (tv := .int) hC fwX6 hKN hP (mdD_D hq v hs) hS 0 rfl rfl 6 (by decide) rfl wd_893 rfl rfl rfl (Nat.le_of_ble_eq_true rfl) dX6_betterWay_2 (fun H locs hq_1 hS => ?_)
  have hP : PW G (mdW G q (mkM (v 0) (v 1) (v 2) (v 3) (v 4) (v 5) (v 6) (v 7) (v 8 0) (v 8 1) 0 (v 8 3) (v 8 4) (v 8 5) (v 8 6) (v 8 7) (v 8 8)) hs) H := hq_1
  have hI : SI ((mkM (v 0) (v 1) (v 2) (v 3) (v 4) (v 5) (v 6) (v 7) (v 8 0) (v 8 1) 0 (v 8 3) (v 8 4) (v 8 5) (v 8 6) (v 8 7) (v 8 8)) 0) := hI
  refine lv_iload_n hC.1 hC.2.1 dX6_betterWay_5 rfl (lv_at hl 1 rfl) ?_
  refine runP (rS (B := fun U H => True) (As := [.int x1]) (rest := []) hC mwX6_isLine (c_X6_isLine l G x1) wd_971 wd_970 ⟨rfl, rfl⟩ ⟨Nat.le_of_ble_eq_true rfl, Nat.le_of_ble_eq_true rfl⟩ (fun _ _ _ _ h => h) (hKN.go hAL hS) trivial rfl hl.1 rfl (Nat.le_of_ble_eq_true rfl) dX6_betterWay_6 ⟨Nat.zero_le _, Nat.zero_le _⟩) ?_
  refine lv_if_eq (tgt := 20) hC.1 hC.2.1 dX6_betterWay_9 (by decide) (fun k9 => ?_) (fun k9 => ?_)
  · refine lv_aload_n hC.1 hC.2.1 dX6_betterWay_20 rfl (lv_at hl 0 rfl) ?_
    refine lv_iconst (v := 1) hC.1 hC.2.1 dX6_betterWay_21 (by decide) ?_
    refine runE (rV (B := fun U H => PW G (mdW G q (mkM (v 0) (v 1) (v 2) (v 3) (v 4) (v 5) (v 6) (v 7) (v 8 0) (v 8 1) 0 (v 8 3) (v 8 4) (v 8 5) (v 8 6) (v 8 7) (v 8 8)) hs) H) (As := [.int 1]) (rest := []) hC mwX6_fails (c_X6_fails l G q (mkM (v 0) (v 1) (v 2) (v 3) (v 4) (v 5) (v 6) (v 7) (v 8 0) (v 8 1) 0 (v 8 3) (v 8 4) (v 8 5) (v 8 6) (v 8 7) (v 8 8)) hs 1 hq) iwX6_fails wd_950 ⟨rfl, rfl⟩ ⟨Nat.le_of_ble_eq_true rfl, Nat.le_of_ble_eq_true rfl⟩ (stb_h (fun H => PW G (mdW G q (mkM (v 0) (v 1) (v 2) (v 3) (v 4) (v 5) (v 6) (v 7) (v 8 0) (v 8 1) 0 (v 8 3) (v 8 4) (v 8 5) (v 8 6) (v 8 7) (v 8 8)) hs) H)) (hKN.go hAL hS) hP (va_recv (hKN.go hAL hS).k hP (ci := 6) (q0 := 0) rfl rfl) rfl hl.1 rfl (Nat.le_of_ble_eq_true rfl) dX6_betterWay_22 ⟨Nat.zero_le _, Nat.zero_le _⟩) hS (fun _ h => h) (fun _ h => h) (fun H locs hq_2 _ _ hS => ?_)
    have hP : PW G (mdW G q ((fX6_fails (mkM (v 0) (v 1) (v 2) (v 3) (v 4) (v 5) (v 6) (v 7) (v 8 0) (v 8 1) 0 (v 8 3) (v 8 4) (v 8 5) (v 8 6) (v 8 7) (v 8 8)) 1).1) hs) H := hq_2
    obtain ⟨r_3, er_3⟩ : ∃ z, z = fX6_fails (mkM (v 0) (v 1) (v 2) (v 3) (v 4) (v 5) (v 6) (v 7) (v 8 0) (v 8 1) 0 (v 8 3) (v 8 4) (v 8 5) (v 8 6) (v 8 7) (v 8 8)) 1 := ⟨_, rfl⟩
    rw [← er_3] at hP
    show W p l e ({ frames := 8, cells := 0, slots := 0, locals := 191 }) s m ([.ref (q 0), .int x1] : List Value).toArray below meth c H locs (0 + 0) (0 + 0) _ (F0 m (22 + 3) ls [.int ((fX6_fails (mkM (v 0) (v 1) (v 2) (v 3) (v 4) (v 5) (v 6) (v 7) (v 8 0) (v 8 1) 0 (v 8 3) (v 8 4) (v 8 5) (v 8 6) (v 8 7) (v 8 8)) 1).2)])
    rw [← er_3]
    have hI : True := trivial
    have e_4 : fX6_betterWay v x1 = (r_3.1, r_3.2) := by have q_ := er_3.symm; subst q_; delta fX6_betterWay; exact Eq.trans (if_pos k9) rfl
    have hg : fX6_betterWay v x1 = (r_3.1, r_3.2) := by have e2 := congrArg (fun z => z) e_4; exact hg.trans e2
    exact eE_i hC (by rw [hg]) (by show PW G (mdW G q (fX6_betterWay v x1).1 hs) H; rw [hg]; exact hP) hS dX6_betterWay_25
  · refine lv_aload_n hC.1 hC.2.1 dX6_betterWay_12 rfl (lv_at hl 0 rfl) ?_
    refine lv_iload_n hC.1 hC.2.1 dX6_betterWay_13 rfl (lv_at hl 1 rfl) ?_
    refine runE (rV (B := fun U H => PW G (mdW G q (mkM (v 0) (v 1) (v 2) (v 3) (v 4) (v 5) (v 6) (v 7) (v 8 0) (v 8 1) 0 (v 8 3) (v 8 4) (v 8 5) (v 8 6) (v 8 7) (v 8 8)) hs) H) (As := [.int x1]) (rest := []) hC mwX6_better (c_X6_better l G q (mkM (v 0) (v 1) (v 2) (v 3) (v 4) (v 5) (v 6) (v 7) (v 8 0) (v 8 1) 0 (v 8 3) (v 8 4) (v 8 5) (v 8 6) (v 8 7) (v 8 8)) hs x1 hq hI) iwX6_better wd_1174 ⟨rfl, rfl⟩ ⟨Nat.le_of_ble_eq_true rfl, Nat.le_of_ble_eq_true rfl⟩ (stb_h (fun H => PW G (mdW G q (mkM (v 0) (v 1) (v 2) (v 3) (v 4) (v 5) (v 6) (v 7) (v 8 0) (v 8 1) 0 (v 8 3) (v 8 4) (v 8 5) (v 8 6) (v 8 7) (v 8 8)) hs) H)) (hKN.go hAL hS) hP (va_recv (hKN.go hAL hS).k hP (ci := 6) (q0 := 0) rfl rfl) rfl hl.1 rfl (Nat.le_of_ble_eq_true rfl) dX6_betterWay_14 ⟨Nat.zero_le _, Nat.zero_le _⟩) hS (fun _ h => h) (fun _ h => h) (fun H locs hq_5 _ _ hS => ?_)
    have hP : PW G (mdW G q ((fX6_better (mkM (v 0) (v 1) (v 2) (v 3) (v 4) (v 5) (v 6) (v 7) (v 8 0) (v 8 1) 0 (v 8 3) (v 8 4) (v 8 5) (v 8 6) (v 8 7) (v 8 8)) x1).1) hs) H := hq_5
    obtain ⟨r_6, er_6⟩ : ∃ z, z = fX6_better (mkM (v 0) (v 1) (v 2) (v 3) (v 4) (v 5) (v 6) (v 7) (v 8 0) (v 8 1) 0 (v 8 3) (v 8 4) (v 8 5) (v 8 6) (v 8 7) (v 8 8)) x1 := ⟨_, rfl⟩
    rw [← er_6] at hP
    show W p l e ({ frames := 8, cells := 0, slots := 0, locals := 191 }) s m ([.ref (q 0), .int x1] : List Value).toArray below meth c H locs (0 + 0) (0 + 0) _ (F0 m (14 + 3) ls [.int ((fX6_better (mkM (v 0) (v 1) (v 2) (v 3) (v 4) (v 5) (v 6) (v 7) (v 8 0) (v 8 1) 0 (v 8 3) (v 8 4) (v 8 5) (v 8 6) (v 8 7) (v 8 8)) x1).2)])
    rw [← er_6]
    have hI : True := trivial
    refine lv_goto (tgt := 25) hC.1 hC.2.1 dX6_betterWay_17 (by decide) ?_
    have e_7 : fX6_betterWay v x1 = (r_6.1, r_6.2) := by have q_ := er_6.symm; subst q_; delta fX6_betterWay; exact Eq.trans (if_neg k9) rfl
    have hg : fX6_betterWay v x1 = (r_6.1, r_6.2) := by have e2 := congrArg (fun z => z) e_7; exact hg.trans e2
    exact eE_i hC (by rw [hg]) (by show PW G (mdW G q (fX6_betterWay v x1).1 hs) H; rw [hg]; exact hP) hS dX6_betterWay_25

theorem dX6_timeToCool_0 : decode cX6_timeToCool 0 = .ok (.iconst 0, 1) := by decide +kernel
theorem dX6_timeToCool_1 : decode cX6_timeToCool 1 = .ok (.istore_n 2, 1) := by decide +kernel
theorem dX6_timeToCool_2 : decode cX6_timeToCool 2 = .ok (.aload_n 0, 1) := by decide +kernel
theorem dX6_timeToCool_3 : decode cX6_timeToCool 3 = .ok (.invokevirtual 124, 3) := by decide +kernel
theorem dX6_timeToCool_6 : decode cX6_timeToCool 6 = .ok (.istore_n 3, 1) := by decide +kernel
theorem dX6_timeToCool_7 : decode cX6_timeToCool 7 = .ok (.iload_n 3, 1) := by decide +kernel
theorem dX6_timeToCool_8 : decode cX6_timeToCool 8 = .ok (.iload_n 1, 1) := by decide +kernel
theorem dX6_timeToCool_9 : decode cX6_timeToCool 9 = .ok (.if_icmp .le 15, 3) := by decide +kernel
theorem dX6_timeToCool_12 : decode cX6_timeToCool 12 = .ok (.iinc 2 1, 3) := by decide +kernel
theorem dX6_timeToCool_15 : decode cX6_timeToCool 15 = .ok (.aload_n 0, 1) := by decide +kernel
theorem dX6_timeToCool_16 : decode cX6_timeToCool 16 = .ok (.iload_n 3, 1) := by decide +kernel
theorem dX6_timeToCool_17 : decode cX6_timeToCool 17 = .ok (.invokevirtual 57, 3) := by decide +kernel
theorem dX6_timeToCool_20 : decode cX6_timeToCool 20 = .ok (.istore_n 3, 1) := by decide +kernel
theorem dX6_timeToCool_21 : decode cX6_timeToCool 21 = .ok (.goto (-14), 3) := by decide +kernel
theorem dX6_timeToCool_24 : decode cX6_timeToCool 24 = .ok (.iload_n 2, 1) := by decide +kernel
theorem dX6_timeToCool_25 : decode cX6_timeToCool 25 = .ok (.ireturn, 1) := by decide +kernel
set_option maxHeartbeats 1000000 in
set_option maxRecDepth 100000 in
theorem c_X6_timeToCool (l : Launch) (G : GT) (q : Nat → Nat) (v : SV) (hs : Int64) (x1 : Int32) (hI : SI (v 0)) (hx : ¬ x1 < 0) : Met l yX6_timeToCool (Cond.code yX6_timeToCool cX6_timeToCool 4 (some .int) :: bigW) ({ frames := 1, cells := 0, slots := 0, locals := 22 }) (BP G [.ref (q 0), .int x1] (fun U H => PW G (mdW G q v hs) H)) (QP (.int (fX6_timeToCool v x1))) 0 0 (fun _ => False) := by
  refine met_of (by decide) (Nat.le_of_ble_eq_true rfl) ?_
  intro p e s m below meth c ls hC hKN hB0 hl
  have hP := hB0
  have hl : lv_has ls 4 [(0, .ref (q 0)), (1, .int x1)] := hl
  have hg : fX6_timeToCool v x1 = fX6_timeToCool v x1 := rfl
  refine lv_iconst (v := 0) hC.1 hC.2.1 dX6_timeToCool_0 (by decide) ?_
  refine lv_istore_n (lv' := [(2, .int 0), (0, .ref (q 0)), (1, .int x1)]) hC.1 hC.2.1 dX6_timeToCool_1 rfl hl (by decide) rfl (fun ls hl => ?_)
  refine lv_aload_n hC.1 hC.2.1 dX6_timeToCool_2 rfl (lv_at hl 1 rfl) ?_
  refine runP (rV (B := fun U H => PW G (mdW G q v hs) H) (As := []) (rest := []) hC mwX6_hottestNow (c_X6_hottestNow l G q v hs) iwX6_hottestNow wd_1047 ⟨rfl, rfl⟩ ⟨Nat.le_of_ble_eq_true rfl, Nat.le_of_ble_eq_true rfl⟩ (stb_h (fun H => PW G (mdW G q v hs) H)) hKN hP (va_recv hKN.k hP (ci := 6) (q0 := 0) rfl rfl) rfl hl.1 rfl (Nat.le_of_ble_eq_true rfl) dX6_timeToCool_3 ⟨Nat.zero_le _, Nat.zero_le _⟩) ?_
  refine lv_istore_n (lv' := [(3, .int (fX6_hottestNow v)), (2, .int 0), (0, .ref (q 0)), (1, .int x1)]) hC.1 hC.2.1 dX6_timeToCool_6 rfl hl (by decide) rfl (fun ls hl => ?_)
  have A7 : ∀ (y2_7 : Int32) (y3_7 : Int32), fX6_timeToCool v x1 = (tX6_timeToCool_7 v x1 (y2_7, y3_7)) → SI (v 0) → ∀ (ls : Array Slot), lv_has ls 4 [(2, .int y2_7)] → W p l e ({ frames := 1, cells := 0, slots := 0, locals := 22 }) s m ([.ref (q 0), .int x1] : List Value).toArray below meth c s.heap [] 0 0 (MQ below (QP (.int (fX6_timeToCool v x1))) ([.ref (q 0), .int x1] : List Value).toArray s 0 0 (fun _ => False)) (F0 m 24 ls []) := by
    intro  y2_7 y3_7 hg hI ls hl
    refine lv_iload_n hC.1 hC.2.1 dX6_timeToCool_24 rfl (lv_at hl 0 rfl) ?_
    have e_1 : tX6_timeToCool_7 v x1 (y2_7, y3_7) = y2_7 := by delta tX6_timeToCool_7; exact rfl
    have hg : fX6_timeToCool v x1 = y2_7 := by have e2 := congrArg (fun z => z) e_1; exact hg.trans e2
    exact eP_i hC (congrArg Value.int hg) dX6_timeToCool_25
  have L7 : ∀ (n7 : Nat), ∀ (y2_7 : Int32) (y3_7 : Int32), lpT n7 (bX6_timeToCool_7 v x1) (y2_7, y3_7) → fX6_timeToCool v x1 = (tX6_timeToCool_7 v x1 (lpB n7 (bX6_timeToCool_7 v x1) (y2_7, y3_7))) → SI (v 0) → ∀ (ls : Array Slot), lv_has ls 4 [(0, .ref (q 0)), (1, .int x1), (2, .int y2_7), (3, .int y3_7)] → W p l e ({ frames := 1, cells := 0, slots := 0, locals := 22 }) s m ([.ref (q 0), .int x1] : List Value).toArray below meth c s.heap [] 0 0 (MQ below (QP (.int (fX6_timeToCool v x1))) ([.ref (q 0), .int x1] : List Value).toArray s 0 0 (fun _ => False)) (F0 m 7 ls []) := by
    intro n7
    induction n7 with
    | zero =>
      intro y2_7 y3_7 hT
      exact hT.elim
    | succ n7 ih =>
      intro y2_7 y3_7 hT hg hI ls hl
      have hg : fX6_timeToCool v x1 = (tX6_timeToCool_7 v x1 (lpBs n7 (bX6_timeToCool_7 v x1) (bX6_timeToCool_7 v x1 (y2_7, y3_7)))) := hg
      have hT : lpTs n7 (bX6_timeToCool_7 v x1) (bX6_timeToCool_7 v x1 (y2_7, y3_7)) := hT
      refine lv_iload_n hC.1 hC.2.1 dX6_timeToCool_7 rfl (lv_at hl 3 rfl) ?_
      refine lv_iload_n hC.1 hC.2.1 dX6_timeToCool_8 rfl (lv_at hl 1 rfl) ?_
      refine lv_icmp_le (tgt := 24) hC.1 hC.2.1 dX6_timeToCool_9 (by decide) (fun k9 => ?_) (fun k9 => ?_)
      · have e_2 : bX6_timeToCool_7 v x1 (y2_7, y3_7) = (false, (y2_7, y3_7)) := by delta bX6_timeToCool_7; exact Eq.trans (if_pos k9) rfl
        have hg : fX6_timeToCool v x1 = (tX6_timeToCool_7 v x1 (y2_7, y3_7)) := by have e2 := congrArg (fun z => (tX6_timeToCool_7 v x1 (lpBs n7 (bX6_timeToCool_7 v x1) z))) e_2; exact hg.trans e2
        have hT : lpTs n7 (bX6_timeToCool_7 v x1) (false, (y2_7, y3_7)) := by rw [← e_2]; exact hT
        exact A7  y2_7 y3_7 hg hI _ (lv_sub hl [2] rfl)
      · refine lv_iinc (v := y2_7 + 1) (lv' := [(2, .int (y2_7 + 1)), (0, .ref (q 0)), (1, .int x1), (3, .int y3_7)]) hC.1 hC.2.1 dX6_timeToCool_12 hl (k := 2) rfl rfl (by decide) rfl (fun ls hl => ?_)
        refine lv_aload_n hC.1 hC.2.1 dX6_timeToCool_15 rfl (lv_at hl 1 rfl) ?_
        refine lv_iload_n hC.1 hC.2.1 dX6_timeToCool_16 rfl (lv_at hl 3 rfl) ?_
        refine runP (rV (B := fun U H => PW G (mdW G q v hs) H) (As := [.int y3_7]) (rest := []) hC mwX6_cooled (c_X6_cooled l G q v hs y3_7 hI) iwX6_cooled wd_1015 ⟨rfl, rfl⟩ ⟨Nat.le_of_ble_eq_true rfl, Nat.le_of_ble_eq_true rfl⟩ (stb_h (fun H => PW G (mdW G q v hs) H)) hKN hP (va_recv hKN.k hP (ci := 6) (q0 := 0) rfl rfl) rfl hl.1 rfl (Nat.le_of_ble_eq_true rfl) dX6_timeToCool_17 ⟨Nat.zero_le _, Nat.zero_le _⟩) ?_
        refine lv_istore_n (lv' := [(3, .int (fX6_cooled v y3_7)), (2, .int (y2_7 + 1)), (0, .ref (q 0)), (1, .int x1)]) hC.1 hC.2.1 dX6_timeToCool_20 rfl hl (by decide) rfl (fun ls hl => ?_)
        refine lv_goto (tgt := 7) hC.1 hC.2.1 dX6_timeToCool_21 (by decide) ?_
        have e_3 : bX6_timeToCool_7 v x1 (y2_7, y3_7) = (true, (y2_7 + 1, fX6_cooled v y3_7)) := by delta bX6_timeToCool_7; exact Eq.trans (if_neg k9) rfl
        have hg : fX6_timeToCool v x1 = (tX6_timeToCool_7 v x1 (lpB n7 (bX6_timeToCool_7 v x1) (y2_7 + 1, fX6_cooled v y3_7))) := by have e2 := congrArg (fun z => (tX6_timeToCool_7 v x1 (lpBs n7 (bX6_timeToCool_7 v x1) z))) e_3; exact hg.trans e2
        have hT : lpTs n7 (bX6_timeToCool_7 v x1) (true, (y2_7 + 1, fX6_cooled v y3_7)) := by rw [← e_3]; exact hT
        exact ih (y2_7 + 1) (fX6_cooled v y3_7) (lpT_go hT) hg hI _ (lv_sub hl [2, 3, 1, 0] rfl)
  have e_4 : fX6_timeToCool v x1 = tX6_timeToCool_7 v x1 (lpB (mT + 1) (bX6_timeToCool_7 v x1) (0, fX6_hottestNow v)) := by delta fX6_timeToCool; exact rfl
  have hg : fX6_timeToCool v x1 = (tX6_timeToCool_7 v x1 (lpB (mT + 1) (bX6_timeToCool_7 v x1) (0, fX6_hottestNow v))) := by have e2 := congrArg (fun z => z) e_4; exact hg.trans e2
  exact L7  (mT + 1) 0 (fX6_hottestNow v) (T_timeToCool v x1 hI hx _) hg hI _ (lv_sub hl [2, 3, 1, 0] rfl)

theorem dX6_coolIn_0 : decode cX6_coolIn 0 = .ok (.aload_n 0, 1) := by decide +kernel
theorem dX6_coolIn_1 : decode cX6_coolIn 1 = .ok (.iconst 0, 1) := by decide +kernel
theorem dX6_coolIn_2 : decode cX6_coolIn 2 = .ok (.putfield 34, 3) := by decide +kernel
theorem dX6_coolIn_5 : decode cX6_coolIn 5 = .ok (.iload_n 1, 1) := by decide +kernel
theorem dX6_coolIn_6 : decode cX6_coolIn 6 = .ok (.iconst 0, 1) := by decide +kernel
theorem dX6_coolIn_7 : decode cX6_coolIn 7 = .ok (.sipush 900, 3) := by decide +kernel
theorem dX6_coolIn_10 : decode cX6_coolIn 10 = .ok (.invokestatic 39, 3) := by decide +kernel
theorem dX6_coolIn_13 : decode cX6_coolIn 13 = .ok (.ifCond .eq 11, 3) := by decide +kernel
theorem dX6_coolIn_16 : decode cX6_coolIn 16 = .ok (.aload_n 0, 1) := by decide +kernel
theorem dX6_coolIn_17 : decode cX6_coolIn 17 = .ok (.iload_n 1, 1) := by decide +kernel
theorem dX6_coolIn_18 : decode cX6_coolIn 18 = .ok (.invokevirtual 198, 3) := by decide +kernel
theorem dX6_coolIn_21 : decode cX6_coolIn 21 = .ok (.goto 8, 3) := by decide +kernel
theorem dX6_coolIn_24 : decode cX6_coolIn 24 = .ok (.aload_n 0, 1) := by decide +kernel
theorem dX6_coolIn_25 : decode cX6_coolIn 25 = .ok (.iconst 1, 1) := by decide +kernel
theorem dX6_coolIn_26 : decode cX6_coolIn 26 = .ok (.invokevirtual 46, 3) := by decide +kernel
theorem dX6_coolIn_29 : decode cX6_coolIn 29 = .ok (.ireturn, 1) := by decide +kernel
set_option maxHeartbeats 1000000 in
set_option maxRecDepth 100000 in
theorem c_X6_coolIn (l : Launch) (G : GT) (q : Nat → Nat) (v : SV) (hs : Int64) (x1 : Int32) (hq : mdD G q) (hI : SI (v 0)) : Met l yX6_coolIn (Cond.code yX6_coolIn cX6_coolIn 2 (some .int) :: bigW) ({ frames := 2, cells := 0, slots := 0, locals := 45 }) (BP G [.ref (q 0), .int x1] (fun U H => PW G (mdW G q v hs) H)) (QE (some (.int (fX6_coolIn v x1).2)) (fun H => PW G (mdW G q (fX6_coolIn v x1).1 hs) H) (mdA q)) 0 0 (mdA q) := by
  refine met_of (by decide) (Nat.le_of_ble_eq_true rfl) ?_
  intro p e s m below meth c ls hC hKN hB0 hl
  have hP := hB0
  have hl : lv_has ls 2 [(0, .ref (q 0)), (1, .int x1)] := hl
  have hS : va_S (mdA q) s.heap s.heap [] := va_S.rf
  have hAL : ∀ a, (mdA q) a → gL G ≤ a := mdD_low hq
  have hg : fX6_coolIn v x1 = fX6_coolIn v x1 := rfl
  refine lv_aload_n hC.1 hC.2.1 dX6_coolIn_0 rfl (lv_at hl 0 rfl) ?_
  refine lv_iconst (v := 0) hC.1 hC.2.1 dX6_coolIn_1 (by decide) ?_
  refine pf (v := .int 0) (tv := .int) hC fwX6 hKN hP (mdD_D hq v hs) hS 0 rfl rfl 6 (by decide) rfl wd_893 rfl rfl rfl (Nat.le_of_ble_eq_true rfl) dX6_coolIn_2 (fun H locs hq_1 hS => ?_)
  have hP : PW G (mdW G q (mkM (v 0) (v 1) (v 2) (v 3) (v 4) (v 5) (v 6) (v 7) (v 8 0) (v 8 1) 0 (v 8 3) (v 8 4) (v 8 5) (v 8 6) (v 8 7) (v 8 8)) hs) H := hq_1
  have hI : SI ((mkM (v 0) (v 1) (v 2) (v 3) (v 4) (v 5) (v 6) (v 7) (v 8 0) (v 8 1) 0 (v 8 3) (v 8 4) (v 8 5) (v 8 6) (v 8 7) (v 8 8)) 0) := hI
  refine lv_iload_n hC.1 hC.2.1 dX6_coolIn_5 rfl (lv_at hl 1 rfl) ?_
  refine lv_iconst (v := 0) hC.1 hC.2.1 dX6_coolIn_6 (by decide) ?_
  refine lv_sipush (v := 900) hC.1 hC.2.1 dX6_coolIn_7 (by decide +kernel) ?_
  refine runP (rS (B := fun U H => True) (As := [.int x1, .int 0, .int 900]) (rest := []) hC mwX6_in (c_X6_in l G x1 0 900) wd_975 wd_974 ⟨rfl, rfl⟩ ⟨Nat.le_of_ble_eq_true rfl, Nat.le_of_ble_eq_true rfl⟩ (fun _ _ _ _ h => h) (hKN.go hAL hS) trivial rfl hl.1 rfl (Nat.le_of_ble_eq_true rfl) dX6_coolIn_10 ⟨Nat.zero_le _, Nat.zero_le _⟩) ?_
  refine lv_if_eq (tgt := 24) hC.1 hC.2.1 dX6_coolIn_13 (by decide) (fun k13 => ?_) (fun k13 => ?_)
  · refine lv_aload_n hC.1 hC.2.1 dX6_coolIn_24 rfl (lv_at hl 0 rfl) ?_
    refine lv_iconst (v := 1) hC.1 hC.2.1 dX6_coolIn_25 (by decide) ?_
    refine runE (rV (B := fun U H => PW G (mdW G q (mkM (v 0) (v 1) (v 2) (v 3) (v 4) (v 5) (v 6) (v 7) (v 8 0) (v 8 1) 0 (v 8 3) (v 8 4) (v 8 5) (v 8 6) (v 8 7) (v 8 8)) hs) H) (As := [.int 1]) (rest := []) hC mwX6_fails (c_X6_fails l G q (mkM (v 0) (v 1) (v 2) (v 3) (v 4) (v 5) (v 6) (v 7) (v 8 0) (v 8 1) 0 (v 8 3) (v 8 4) (v 8 5) (v 8 6) (v 8 7) (v 8 8)) hs 1 hq) iwX6_fails wd_950 ⟨rfl, rfl⟩ ⟨Nat.le_of_ble_eq_true rfl, Nat.le_of_ble_eq_true rfl⟩ (stb_h (fun H => PW G (mdW G q (mkM (v 0) (v 1) (v 2) (v 3) (v 4) (v 5) (v 6) (v 7) (v 8 0) (v 8 1) 0 (v 8 3) (v 8 4) (v 8 5) (v 8 6) (v 8 7) (v 8 8)) hs) H)) (hKN.go hAL hS) hP (va_recv (hKN.go hAL hS).k hP (ci := 6) (q0 := 0) rfl rfl) rfl hl.1 rfl (Nat.le_of_ble_eq_true rfl) dX6_coolIn_26 ⟨Nat.zero_le _, Nat.zero_le _⟩) hS (fun _ h => h) (fun _ h => h) (fun H locs hq_2 _ _ hS => ?_)
    have hP : PW G (mdW G q ((fX6_fails (mkM (v 0) (v 1) (v 2) (v 3) (v 4) (v 5) (v 6) (v 7) (v 8 0) (v 8 1) 0 (v 8 3) (v 8 4) (v 8 5) (v 8 6) (v 8 7) (v 8 8)) 1).1) hs) H := hq_2
    obtain ⟨r_3, er_3⟩ : ∃ z, z = fX6_fails (mkM (v 0) (v 1) (v 2) (v 3) (v 4) (v 5) (v 6) (v 7) (v 8 0) (v 8 1) 0 (v 8 3) (v 8 4) (v 8 5) (v 8 6) (v 8 7) (v 8 8)) 1 := ⟨_, rfl⟩
    rw [← er_3] at hP
    show W p l e ({ frames := 2, cells := 0, slots := 0, locals := 45 }) s m ([.ref (q 0), .int x1] : List Value).toArray below meth c H locs (0 + 0) (0 + 0) _ (F0 m (26 + 3) ls [.int ((fX6_fails (mkM (v 0) (v 1) (v 2) (v 3) (v 4) (v 5) (v 6) (v 7) (v 8 0) (v 8 1) 0 (v 8 3) (v 8 4) (v 8 5) (v 8 6) (v 8 7) (v 8 8)) 1).2)])
    rw [← er_3]
    have hI : True := trivial
    have e_4 : fX6_coolIn v x1 = (r_3.1, r_3.2) := by have q_ := er_3.symm; subst q_; delta fX6_coolIn; exact Eq.trans (if_pos k13) rfl
    have hg : fX6_coolIn v x1 = (r_3.1, r_3.2) := by have e2 := congrArg (fun z => z) e_4; exact hg.trans e2
    exact eE_i hC (by rw [hg]) (by show PW G (mdW G q (fX6_coolIn v x1).1 hs) H; rw [hg]; exact hP) hS dX6_coolIn_29
  · refine lv_aload_n hC.1 hC.2.1 dX6_coolIn_16 rfl (lv_at hl 0 rfl) ?_
    refine lv_iload_n hC.1 hC.2.1 dX6_coolIn_17 rfl (lv_at hl 1 rfl) ?_
    refine runP (rV (B := fun U H => PW G (mdW G q (mkM (v 0) (v 1) (v 2) (v 3) (v 4) (v 5) (v 6) (v 7) (v 8 0) (v 8 1) 0 (v 8 3) (v 8 4) (v 8 5) (v 8 6) (v 8 7) (v 8 8)) hs) H) (As := [.int x1]) (rest := []) hC mwX6_timeToCool (c_X6_timeToCool l G q (mkM (v 0) (v 1) (v 2) (v 3) (v 4) (v 5) (v 6) (v 7) (v 8 0) (v 8 1) 0 (v 8 3) (v 8 4) (v 8 5) (v 8 6) (v 8 7) (v 8 8)) hs x1 hI (in_nat (b := 900) (by omega) k13).1) iwX6_timeToCool wd_1182 ⟨rfl, rfl⟩ ⟨Nat.le_of_ble_eq_true rfl, Nat.le_of_ble_eq_true rfl⟩ (stb_h (fun H => PW G (mdW G q (mkM (v 0) (v 1) (v 2) (v 3) (v 4) (v 5) (v 6) (v 7) (v 8 0) (v 8 1) 0 (v 8 3) (v 8 4) (v 8 5) (v 8 6) (v 8 7) (v 8 8)) hs) H)) (hKN.go hAL hS) hP (va_recv (hKN.go hAL hS).k hP (ci := 6) (q0 := 0) rfl rfl) rfl hl.1 rfl (Nat.le_of_ble_eq_true rfl) dX6_coolIn_18 ⟨Nat.zero_le _, Nat.zero_le _⟩) ?_
    refine lv_goto (tgt := 29) hC.1 hC.2.1 dX6_coolIn_21 (by decide) ?_
    have e_5 : fX6_coolIn v x1 = (mkM (v 0) (v 1) (v 2) (v 3) (v 4) (v 5) (v 6) (v 7) (v 8 0) (v 8 1) 0 (v 8 3) (v 8 4) (v 8 5) (v 8 6) (v 8 7) (v 8 8), fX6_timeToCool (mkM (v 0) (v 1) (v 2) (v 3) (v 4) (v 5) (v 6) (v 7) (v 8 0) (v 8 1) 0 (v 8 3) (v 8 4) (v 8 5) (v 8 6) (v 8 7) (v 8 8)) x1) := by delta fX6_coolIn; exact Eq.trans (if_neg k13) rfl
    have hg : fX6_coolIn v x1 = (mkM (v 0) (v 1) (v 2) (v 3) (v 4) (v 5) (v 6) (v 7) (v 8 0) (v 8 1) 0 (v 8 3) (v 8 4) (v 8 5) (v 8 6) (v 8 7) (v 8 8), fX6_timeToCool (mkM (v 0) (v 1) (v 2) (v 3) (v 4) (v 5) (v 6) (v 7) (v 8 0) (v 8 1) 0 (v 8 3) (v 8 4) (v 8 5) (v 8 6) (v 8 7) (v 8 8)) x1) := by have e2 := congrArg (fun z => z) e_5; exact hg.trans e2
    exact eE_i hC (by rw [hg]) (by show PW G (mdW G q (fX6_coolIn v x1).1 hs) H; rw [hg]; exact hP) hS dX6_coolIn_29

theorem dX6_isDarkBy_0 : decode cX6_isDarkBy 0 = .ok (.aload_n 0, 1) := by decide +kernel
theorem dX6_isDarkBy_1 : decode cX6_isDarkBy 1 = .ok (.iconst 1, 1) := by decide +kernel
theorem dX6_isDarkBy_2 : decode cX6_isDarkBy 2 = .ok (.iload_n 1, 1) := by decide +kernel
theorem dX6_isDarkBy_3 : decode cX6_isDarkBy 3 = .ok (.ishl, 1) := by decide +kernel
theorem dX6_isDarkBy_4 : decode cX6_isDarkBy 4 = .ok (.iload_n 1, 1) := by decide +kernel
theorem dX6_isDarkBy_5 : decode cX6_isDarkBy 5 = .ok (.iload_n 2, 1) := by decide +kernel
theorem dX6_isDarkBy_6 : decode cX6_isDarkBy 6 = .ok (.invokevirtual 64, 3) := by decide +kernel
theorem dX6_isDarkBy_9 : decode cX6_isDarkBy 9 = .ok (.istore_n 3, 1) := by decide +kernel
theorem dX6_isDarkBy_10 : decode cX6_isDarkBy 10 = .ok (.aload_n 0, 1) := by decide +kernel
theorem dX6_isDarkBy_11 : decode cX6_isDarkBy 11 = .ok (.getfield 7, 3) := by decide +kernel
theorem dX6_isDarkBy_14 : decode cX6_isDarkBy 14 = .ok (.iload_n 1, 1) := by decide +kernel
theorem dX6_isDarkBy_15 : decode cX6_isDarkBy 15 = .ok (.iaload, 1) := by decide +kernel
theorem dX6_isDarkBy_16 : decode cX6_isDarkBy 16 = .ok (.istore 4, 2) := by decide +kernel
theorem dX6_isDarkBy_18 : decode cX6_isDarkBy 18 = .ok (.iload 4, 2) := by decide +kernel
theorem dX6_isDarkBy_20 : decode cX6_isDarkBy 20 = .ok (.iload_n 3, 1) := by decide +kernel
theorem dX6_isDarkBy_21 : decode cX6_isDarkBy 21 = .ok (.iadd, 1) := by decide +kernel
theorem dX6_isDarkBy_22 : decode cX6_isDarkBy 22 = .ok (.aload_n 0, 1) := by decide +kernel
theorem dX6_isDarkBy_23 : decode cX6_isDarkBy 23 = .ok (.getfield 7, 3) := by decide +kernel
theorem dX6_isDarkBy_26 : decode cX6_isDarkBy 26 = .ok (.bipush 76, 2) := by decide +kernel
theorem dX6_isDarkBy_28 : decode cX6_isDarkBy 28 = .ok (.iaload, 1) := by decide +kernel
theorem dX6_isDarkBy_29 : decode cX6_isDarkBy 29 = .ok (.if_icmp .le 14, 3) := by decide +kernel
theorem dX6_isDarkBy_32 : decode cX6_isDarkBy 32 = .ok (.aload_n 0, 1) := by decide +kernel
theorem dX6_isDarkBy_33 : decode cX6_isDarkBy 33 = .ok (.iload 4, 2) := by decide +kernel
theorem dX6_isDarkBy_35 : decode cX6_isDarkBy 35 = .ok (.invokevirtual 57, 3) := by decide +kernel
theorem dX6_isDarkBy_38 : decode cX6_isDarkBy 38 = .ok (.istore 4, 2) := by decide +kernel
theorem dX6_isDarkBy_40 : decode cX6_isDarkBy 40 = .ok (.goto (-22), 3) := by decide +kernel
theorem dX6_isDarkBy_43 : decode cX6_isDarkBy 43 = .ok (.iload 4, 2) := by decide +kernel
theorem dX6_isDarkBy_45 : decode cX6_isDarkBy 45 = .ok (.iload_n 3, 1) := by decide +kernel
theorem dX6_isDarkBy_46 : decode cX6_isDarkBy 46 = .ok (.iadd, 1) := by decide +kernel
theorem dX6_isDarkBy_47 : decode cX6_isDarkBy 47 = .ok (.aload_n 0, 1) := by decide +kernel
theorem dX6_isDarkBy_48 : decode cX6_isDarkBy 48 = .ok (.invokevirtual 84, 3) := by decide +kernel
theorem dX6_isDarkBy_51 : decode cX6_isDarkBy 51 = .ok (.if_icmp .lt 7, 3) := by decide +kernel
theorem dX6_isDarkBy_54 : decode cX6_isDarkBy 54 = .ok (.iconst 1, 1) := by decide +kernel
theorem dX6_isDarkBy_55 : decode cX6_isDarkBy 55 = .ok (.goto 4, 3) := by decide +kernel
theorem dX6_isDarkBy_58 : decode cX6_isDarkBy 58 = .ok (.iconst 0, 1) := by decide +kernel
theorem dX6_isDarkBy_59 : decode cX6_isDarkBy 59 = .ok (.ireturn, 1) := by decide +kernel
set_option maxHeartbeats 1000000 in
set_option maxRecDepth 100000 in
theorem c_X6_isDarkBy (l : Launch) (G : GT) (q : Nat → Nat) (v : SV) (hs : Int64) (x1 : Nat) (x2 : Int32) (hI : SI (v 0)) (hx : x1 < 24) (hv : bd x2 50 300) : Met l yX6_isDarkBy (Cond.code yX6_isDarkBy cX6_isDarkBy 5 (some .boolean) :: bigW) ({ frames := 3, cells := 0, slots := 0, locals := 68 }) (BP G [.ref (q 0), .int (nI x1), .int x2] (fun U H => PW G (mdW G q v hs) H)) (QP (.int (fX6_isDarkBy v x1 x2))) 0 0 (fun _ => False) := by
  refine met_of (by decide) (Nat.le_of_ble_eq_true rfl) ?_
  intro p e s m below meth c ls hC hKN hB0 hl
  have hP := hB0
  have hl : lv_has ls 5 [(0, .ref (q 0)), (1, .int (nI x1)), (2, .int x2)] := hl
  have hg : fX6_isDarkBy v x1 x2 = fX6_isDarkBy v x1 x2 := rfl
  refine lv_aload_n hC.1 hC.2.1 dX6_isDarkBy_0 rfl (lv_at hl 0 rfl) ?_
  refine lv_iconst (v := 1) hC.1 hC.2.1 dX6_isDarkBy_1 (by decide) ?_
  refine lv_iload_n hC.1 hC.2.1 dX6_isDarkBy_2 rfl (lv_at hl 1 rfl) ?_
  refine lv_ishl hC.1 hC.2.1 dX6_isDarkBy_3 ?_
  refine lv_iload_n hC.1 hC.2.1 dX6_isDarkBy_4 rfl (lv_at hl 1 rfl) ?_
  refine lv_iload_n hC.1 hC.2.1 dX6_isDarkBy_5 rfl (lv_at hl 2 rfl) ?_
  refine runP (rV (B := fun U H => PW G (mdW G q v hs) H) (As := [.int (1 <<< ((nI x1) &&& 31)), .int (nI x1), .int x2]) (rest := []) hC mwX6_pulseBy (c_X6_pulseBy l G q v hs (1 <<< ((nI x1) &&& 31)) (nI x1) x2) iwX6_pulseBy wd_1007 ⟨rfl, rfl⟩ ⟨Nat.le_of_ble_eq_true rfl, Nat.le_of_ble_eq_true rfl⟩ (stb_h (fun H => PW G (mdW G q v hs) H)) hKN hP (va_recv hKN.k hP (ci := 6) (q0 := 0) rfl rfl) rfl hl.1 rfl (Nat.le_of_ble_eq_true rfl) dX6_isDarkBy_6 ⟨Nat.zero_le _, Nat.zero_le _⟩) ?_
  refine lv_istore_n (lv' := [(3, .int (fX6_pulseBy v (1 <<< ((nI x1) &&& 31)) (nI x1) x2)), (0, .ref (q 0)), (1, .int (nI x1)), (2, .int x2)]) hC.1 hC.2.1 dX6_isDarkBy_9 rfl hl (by decide) rfl (fun ls hl => ?_)
  refine lv_aload_n hC.1 hC.2.1 dX6_isDarkBy_10 rfl (lv_at hl 1 rfl) ?_
  refine gf (v := .ref (q 1)) hC fwX6 hKN hP 0 rfl rfl 0 (by decide) rfl wd_887 rfl dX6_isDarkBy_11 ?_
  refine lv_iload_n hC.1 hC.2.1 dX6_isDarkBy_14 rfl (lv_at hl 2 rfl) ?_
  refine iald_k hC hKN hP 1 rfl (n := 124) (f := (v 0)) x1 (rfl) (by omega) (by decide) dX6_isDarkBy_15 ?_
  refine lv_istore (lv' := [(4, .int ((v 0) x1)), (3, .int (fX6_pulseBy v (1 <<< ((nI x1) &&& 31)) (nI x1) x2)), (0, .ref (q 0)), (1, .int (nI x1)), (2, .int x2)]) hC.1 hC.2.1 dX6_isDarkBy_16 hl (by decide) rfl (fun ls hl => ?_)
  have A18 : ∀ (y3_18 : Int32), ∀ (y4_18 : Int32), fX6_isDarkBy v x1 x2 = (tX6_isDarkBy_18 v x1 x2 y3_18 y4_18) → SI (v 0) → ∀ (ls : Array Slot), lv_has ls 5 [(0, .ref (q 0)), (3, .int y3_18), (4, .int y4_18)] → W p l e ({ frames := 3, cells := 0, slots := 0, locals := 68 }) s m ([.ref (q 0), .int (nI x1), .int x2] : List Value).toArray below meth c s.heap [] 0 0 (MQ below (QP (.int (fX6_isDarkBy v x1 x2))) ([.ref (q 0), .int (nI x1), .int x2] : List Value).toArray s 0 0 (fun _ => False)) (F0 m 43 ls []) := by
    intro y3_18 y4_18 hg hI ls hl
    refine lv_iload hC.1 hC.2.1 dX6_isDarkBy_43 (lv_at hl 2 rfl) ?_
    refine lv_iload_n hC.1 hC.2.1 dX6_isDarkBy_45 rfl (lv_at hl 1 rfl) ?_
    refine lv_iadd hC.1 hC.2.1 dX6_isDarkBy_46 ?_
    refine lv_aload_n hC.1 hC.2.1 dX6_isDarkBy_47 rfl (lv_at hl 0 rfl) ?_
    refine runP (rV (B := fun U H => PW G (mdW G q v hs) H) (As := []) (rest := [.int (y4_18 + y3_18)]) hC mwX6_darkHeat (c_X6_darkHeat l G q v hs) iwX6_darkHeat wd_1023 ⟨rfl, rfl⟩ ⟨Nat.le_of_ble_eq_true rfl, Nat.le_of_ble_eq_true rfl⟩ (stb_h (fun H => PW G (mdW G q v hs) H)) hKN hP (va_recv hKN.k hP (ci := 6) (q0 := 0) rfl rfl) rfl hl.1 rfl (Nat.le_of_ble_eq_true rfl) dX6_isDarkBy_48 ⟨Nat.zero_le _, Nat.zero_le _⟩) ?_
    refine lv_icmp_lt (tgt := 58) hC.1 hC.2.1 dX6_isDarkBy_51 (by decide) (fun k51 => ?_) (fun k51 => ?_)
    · refine lv_iconst (v := 0) hC.1 hC.2.1 dX6_isDarkBy_58 (by decide) ?_
      have e_1 : tX6_isDarkBy_18 v x1 x2 y3_18 y4_18 = 0 := by delta tX6_isDarkBy_18; exact Eq.trans (if_pos k51) rfl
      have hg : fX6_isDarkBy v x1 x2 = 0 := by have e2 := congrArg (fun z => z) e_1; exact hg.trans e2
      exact eP_z hC (congrArg Value.int hg) rfl dX6_isDarkBy_59
    · refine lv_iconst (v := 1) hC.1 hC.2.1 dX6_isDarkBy_54 (by decide) ?_
      refine lv_goto (tgt := 59) hC.1 hC.2.1 dX6_isDarkBy_55 (by decide) ?_
      have e_2 : tX6_isDarkBy_18 v x1 x2 y3_18 y4_18 = 1 := by delta tX6_isDarkBy_18; exact Eq.trans (if_neg k51) rfl
      have hg : fX6_isDarkBy v x1 x2 = 1 := by have e2 := congrArg (fun z => z) e_2; exact hg.trans e2
      exact eP_z hC (congrArg Value.int hg) rfl dX6_isDarkBy_59
  have L18 : ∀ (y3_18 : Int32), ∀ (n18 : Nat), ∀ (y4_18 : Int32), lpT n18 (bX6_isDarkBy_18 v x1 x2 y3_18) y4_18 → fX6_isDarkBy v x1 x2 = (tX6_isDarkBy_18 v x1 x2 y3_18 (lpB n18 (bX6_isDarkBy_18 v x1 x2 y3_18) y4_18)) → SI (v 0) → ∀ (ls : Array Slot), lv_has ls 5 [(0, .ref (q 0)), (3, .int y3_18), (4, .int y4_18)] → W p l e ({ frames := 3, cells := 0, slots := 0, locals := 68 }) s m ([.ref (q 0), .int (nI x1), .int x2] : List Value).toArray below meth c s.heap [] 0 0 (MQ below (QP (.int (fX6_isDarkBy v x1 x2))) ([.ref (q 0), .int (nI x1), .int x2] : List Value).toArray s 0 0 (fun _ => False)) (F0 m 18 ls []) := by
    intro y3_18
    intro n18
    induction n18 with
    | zero =>
      intro y4_18 hT
      exact hT.elim
    | succ n18 ih =>
      intro y4_18 hT hg hI ls hl
      have hg : fX6_isDarkBy v x1 x2 = (tX6_isDarkBy_18 v x1 x2 y3_18 (lpBs n18 (bX6_isDarkBy_18 v x1 x2 y3_18) (bX6_isDarkBy_18 v x1 x2 y3_18 y4_18))) := hg
      have hT : lpTs n18 (bX6_isDarkBy_18 v x1 x2 y3_18) (bX6_isDarkBy_18 v x1 x2 y3_18 y4_18) := hT
      refine lv_iload hC.1 hC.2.1 dX6_isDarkBy_18 (lv_at hl 2 rfl) ?_
      refine lv_iload_n hC.1 hC.2.1 dX6_isDarkBy_20 rfl (lv_at hl 1 rfl) ?_
      refine lv_iadd hC.1 hC.2.1 dX6_isDarkBy_21 ?_
      refine lv_aload_n hC.1 hC.2.1 dX6_isDarkBy_22 rfl (lv_at hl 0 rfl) ?_
      refine gf (v := .ref (q 1)) hC fwX6 hKN hP 0 rfl rfl 0 (by decide) rfl wd_887 rfl dX6_isDarkBy_23 ?_
      refine lv_bipush (v := 76) hC.1 hC.2.1 dX6_isDarkBy_26 (by decide +kernel) ?_
      refine iald_k hC hKN hP 1 rfl (n := 124) (f := (v 0)) 76 (rfl) (by omega) (by decide) dX6_isDarkBy_28 ?_
      refine lv_icmp_le (tgt := 43) hC.1 hC.2.1 dX6_isDarkBy_29 (by decide) (fun k29 => ?_) (fun k29 => ?_)
      · have e_3 : bX6_isDarkBy_18 v x1 x2 y3_18 y4_18 = (false, y4_18) := by delta bX6_isDarkBy_18; exact Eq.trans (if_pos k29) rfl
        have hg : fX6_isDarkBy v x1 x2 = (tX6_isDarkBy_18 v x1 x2 y3_18 y4_18) := by have e2 := congrArg (fun z => (tX6_isDarkBy_18 v x1 x2 y3_18 (lpBs n18 (bX6_isDarkBy_18 v x1 x2 y3_18) z))) e_3; exact hg.trans e2
        have hT : lpTs n18 (bX6_isDarkBy_18 v x1 x2 y3_18) (false, y4_18) := by rw [← e_3]; exact hT
        exact A18 y3_18 y4_18 hg hI _ (lv_sub hl [0, 1, 2] rfl)
      · refine lv_aload_n hC.1 hC.2.1 dX6_isDarkBy_32 rfl (lv_at hl 0 rfl) ?_
        refine lv_iload hC.1 hC.2.1 dX6_isDarkBy_33 (lv_at hl 2 rfl) ?_
        refine runP (rV (B := fun U H => PW G (mdW G q v hs) H) (As := [.int y4_18]) (rest := []) hC mwX6_cooled (c_X6_cooled l G q v hs y4_18 hI) iwX6_cooled wd_1015 ⟨rfl, rfl⟩ ⟨Nat.le_of_ble_eq_true rfl, Nat.le_of_ble_eq_true rfl⟩ (stb_h (fun H => PW G (mdW G q v hs) H)) hKN hP (va_recv hKN.k hP (ci := 6) (q0 := 0) rfl rfl) rfl hl.1 rfl (Nat.le_of_ble_eq_true rfl) dX6_isDarkBy_35 ⟨Nat.zero_le _, Nat.zero_le _⟩) ?_
        refine lv_istore (lv' := [(4, .int (fX6_cooled v y4_18)), (0, .ref (q 0)), (3, .int y3_18)]) hC.1 hC.2.1 dX6_isDarkBy_38 hl (by decide) rfl (fun ls hl => ?_)
        refine lv_goto (tgt := 18) hC.1 hC.2.1 dX6_isDarkBy_40 (by decide) ?_
        have e_4 : bX6_isDarkBy_18 v x1 x2 y3_18 y4_18 = (true, fX6_cooled v y4_18) := by delta bX6_isDarkBy_18; exact Eq.trans (if_neg k29) rfl
        have hg : fX6_isDarkBy v x1 x2 = (tX6_isDarkBy_18 v x1 x2 y3_18 (lpB n18 (bX6_isDarkBy_18 v x1 x2 y3_18) (fX6_cooled v y4_18))) := by have e2 := congrArg (fun z => (tX6_isDarkBy_18 v x1 x2 y3_18 (lpBs n18 (bX6_isDarkBy_18 v x1 x2 y3_18) z))) e_4; exact hg.trans e2
        have hT : lpTs n18 (bX6_isDarkBy_18 v x1 x2 y3_18) (true, fX6_cooled v y4_18) := by rw [← e_4]; exact hT
        exact ih (fX6_cooled v y4_18) (lpT_go hT) hg hI _ (lv_sub hl [1, 2, 0] rfl)
  have e_5 : fX6_isDarkBy v x1 x2 = tX6_isDarkBy_18 v x1 x2 (fX6_pulseBy v (1 <<< ((nI x1) &&& 31)) (nI x1) x2) (lpB (mT + 1) (bX6_isDarkBy_18 v x1 x2 (fX6_pulseBy v (1 <<< ((nI x1) &&& 31)) (nI x1) x2)) ((v 0) x1)) := by delta fX6_isDarkBy; exact rfl
  have hg : fX6_isDarkBy v x1 x2 = (tX6_isDarkBy_18 v x1 x2 (fX6_pulseBy v (1 <<< ((nI x1) &&& 31)) (nI x1) x2) (lpB (mT + 1) (bX6_isDarkBy_18 v x1 x2 (fX6_pulseBy v (1 <<< ((nI x1) &&& 31)) (nI x1) x2)) ((v 0) x1))) := by have e2 := congrArg (fun z => z) e_5; exact hg.trans e2
  exact L18 (fX6_pulseBy v (1 <<< ((nI x1) &&& 31)) (nI x1) x2) (mT + 1) ((v 0) x1) (T_isDarkBy v x1 x2 hI hv _ _ _) hg hI _ (lv_sub hl [2, 1, 0] rfl)

theorem dX6_leastDark_0 : decode cX6_leastDark 0 = .ok (.iconst (-1), 1) := by decide +kernel
theorem dX6_leastDark_1 : decode cX6_leastDark 1 = .ok (.istore_n 2, 1) := by decide +kernel
theorem dX6_leastDark_2 : decode cX6_leastDark 2 = .ok (.sipush 300, 3) := by decide +kernel
theorem dX6_leastDark_5 : decode cX6_leastDark 5 = .ok (.istore_n 3, 1) := by decide +kernel
theorem dX6_leastDark_6 : decode cX6_leastDark 6 = .ok (.iload_n 3, 1) := by decide +kernel
theorem dX6_leastDark_7 : decode cX6_leastDark 7 = .ok (.bipush 50, 2) := by decide +kernel
theorem dX6_leastDark_9 : decode cX6_leastDark 9 = .ok (.if_icmp .lt 24, 3) := by decide +kernel
theorem dX6_leastDark_12 : decode cX6_leastDark 12 = .ok (.aload_n 0, 1) := by decide +kernel
theorem dX6_leastDark_13 : decode cX6_leastDark 13 = .ok (.iload_n 1, 1) := by decide +kernel
theorem dX6_leastDark_14 : decode cX6_leastDark 14 = .ok (.iload_n 3, 1) := by decide +kernel
theorem dX6_leastDark_15 : decode cX6_leastDark 15 = .ok (.invokevirtual 201, 3) := by decide +kernel
theorem dX6_leastDark_18 : decode cX6_leastDark 18 = .ok (.ifCond .eq 7, 3) := by decide +kernel
theorem dX6_leastDark_21 : decode cX6_leastDark 21 = .ok (.iload_n 3, 1) := by decide +kernel
theorem dX6_leastDark_22 : decode cX6_leastDark 22 = .ok (.goto 4, 3) := by decide +kernel
theorem dX6_leastDark_25 : decode cX6_leastDark 25 = .ok (.iload_n 2, 1) := by decide +kernel
theorem dX6_leastDark_26 : decode cX6_leastDark 26 = .ok (.istore_n 2, 1) := by decide +kernel
theorem dX6_leastDark_27 : decode cX6_leastDark 27 = .ok (.iinc 3 (-1), 3) := by decide +kernel
theorem dX6_leastDark_30 : decode cX6_leastDark 30 = .ok (.goto (-24), 3) := by decide +kernel
theorem dX6_leastDark_33 : decode cX6_leastDark 33 = .ok (.iload_n 2, 1) := by decide +kernel
theorem dX6_leastDark_34 : decode cX6_leastDark 34 = .ok (.ireturn, 1) := by decide +kernel
set_option maxHeartbeats 1000000 in
set_option maxRecDepth 100000 in
theorem c_X6_leastDark (l : Launch) (G : GT) (q : Nat → Nat) (v : SV) (hs : Int64) (x1 : Nat) (hI : SI (v 0)) (hx : x1 < 24) : Met l yX6_leastDark (Cond.code yX6_leastDark cX6_leastDark 4 (some .int) :: bigW) ({ frames := 4, cells := 0, slots := 0, locals := 92 }) (BP G [.ref (q 0), .int (nI x1)] (fun U H => PW G (mdW G q v hs) H)) (QP (.int (fX6_leastDark v x1))) 0 0 (fun _ => False) := by
  refine met_of (by decide) (Nat.le_of_ble_eq_true rfl) ?_
  intro p e s m below meth c ls hC hKN hB0 hl
  have hP := hB0
  have hl : lv_has ls 4 [(0, .ref (q 0)), (1, .int (nI x1))] := hl
  have hg : fX6_leastDark v x1 = fX6_leastDark v x1 := rfl
  refine lv_iconst (v := (-1)) hC.1 hC.2.1 dX6_leastDark_0 (by decide) ?_
  refine lv_istore_n (lv' := [(2, .int (-1)), (0, .ref (q 0)), (1, .int (nI x1))]) hC.1 hC.2.1 dX6_leastDark_1 rfl hl (by decide) rfl (fun ls hl => ?_)
  refine lv_sipush (v := 300) hC.1 hC.2.1 dX6_leastDark_2 (by decide +kernel) ?_
  refine lv_istore_n (lv' := [(3, .int 300), (2, .int (-1)), (0, .ref (q 0)), (1, .int (nI x1))]) hC.1 hC.2.1 dX6_leastDark_5 rfl hl (by decide) rfl (fun ls hl => ?_)
  have A6 : ∀ (y2_6 : Int32), fX6_leastDark v x1 = (tX6_leastDark_6 v x1 y2_6) → SI (v 0) → ∀ (ls : Array Slot), lv_has ls 4 [(2, .int y2_6)] → W p l e ({ frames := 4, cells := 0, slots := 0, locals := 92 }) s m ([.ref (q 0), .int (nI x1)] : List Value).toArray below meth c s.heap [] 0 0 (MQ below (QP (.int (fX6_leastDark v x1))) ([.ref (q 0), .int (nI x1)] : List Value).toArray s 0 0 (fun _ => False)) (F0 m 33 ls []) := by
    intro  y2_6 hg hI ls hl
    refine lv_iload_n hC.1 hC.2.1 dX6_leastDark_33 rfl (lv_at hl 0 rfl) ?_
    have e_1 : tX6_leastDark_6 v x1 y2_6 = y2_6 := by delta tX6_leastDark_6; exact rfl
    have hg : fX6_leastDark v x1 = y2_6 := by have e2 := congrArg (fun z => z) e_1; exact hg.trans e2
    exact eP_i hC (congrArg Value.int hg) dX6_leastDark_34
  have L6 : ∀ (n6 : Nat), ∀ (y2_6 : Int32), n6 ≤ 251 → fX6_leastDark v x1 = (tX6_leastDark_6 v x1 (lpD n6 (bX6_leastDark_6 v x1) y2_6)) → SI (v 0) → ∀ (ls : Array Slot), lv_has ls 4 [(0, .ref (q 0)), (1, .int (nI x1)), (2, .int y2_6), (3, .int (nI (n6 + 49)))] → W p l e ({ frames := 4, cells := 0, slots := 0, locals := 92 }) s m ([.ref (q 0), .int (nI x1)] : List Value).toArray below meth c s.heap [] 0 0 (MQ below (QP (.int (fX6_leastDark v x1))) ([.ref (q 0), .int (nI x1)] : List Value).toArray s 0 0 (fun _ => False)) (F0 m 6 ls []) := by
    intro n6
    induction n6 with
    | zero =>
      intro y2_6 hd hg hI ls hl
      refine lv_iload_n hC.1 hC.2.1 dX6_leastDark_6 rfl (lv_at hl 3 rfl) ?_
      refine lv_bipush (v := 50) hC.1 hC.2.1 dX6_leastDark_7 (by decide +kernel) ?_
      refine lv_icmp_lt (tgt := 33) hC.1 hC.2.1 dX6_leastDark_9 (by decide) (fun k9 => ?_) (fun k9 => ?_)
      · exact A6  y2_6 hg hI _ (lv_sub hl [2] rfl)
      · exact absurd (by decide) k9
    | succ n6 ih =>
      intro y2_6 hd hg hI ls hl
      have hg : fX6_leastDark v x1 = (tX6_leastDark_6 v x1 (lpD n6 (bX6_leastDark_6 v x1) (bX6_leastDark_6 v x1 (n6 + 1) y2_6))) := hg
      refine lv_iload_n hC.1 hC.2.1 dX6_leastDark_6 rfl (lv_at hl 3 rfl) ?_
      refine lv_bipush (v := 50) hC.1 hC.2.1 dX6_leastDark_7 (by decide +kernel) ?_
      refine lv_icmp_lt (tgt := 33) hC.1 hC.2.1 dX6_leastDark_9 (by decide) (fun k9 => ?_) (fun k9 => ?_)
      · exact absurd k9 (nI_nlt (b := 50) (by omega) (by omega))
      · refine lv_aload_n hC.1 hC.2.1 dX6_leastDark_12 rfl (lv_at hl 0 rfl) ?_
        refine lv_iload_n hC.1 hC.2.1 dX6_leastDark_13 rfl (lv_at hl 1 rfl) ?_
        refine lv_iload_n hC.1 hC.2.1 dX6_leastDark_14 rfl (lv_at hl 3 rfl) ?_
        refine runP (rV (B := fun U H => PW G (mdW G q v hs) H) (As := [.int (nI x1), .int (nI ((n6 + 1) + 49))]) (rest := []) hC mwX6_isDarkBy (c_X6_isDarkBy l G q v hs x1 (nI ((n6 + 1) + 49)) hI hx (bd_nI (by omega) (by omega) (by omega))) iwX6_isDarkBy wd_1194 ⟨rfl, rfl⟩ ⟨Nat.le_of_ble_eq_true rfl, Nat.le_of_ble_eq_true rfl⟩ (stb_h (fun H => PW G (mdW G q v hs) H)) hKN hP (va_recv hKN.k hP (ci := 6) (q0 := 0) rfl rfl) rfl hl.1 rfl (Nat.le_of_ble_eq_true rfl) dX6_leastDark_15 ⟨Nat.zero_le _, Nat.zero_le _⟩) ?_
        refine lv_if_eq (tgt := 25) hC.1 hC.2.1 dX6_leastDark_18 (by decide) (fun k18 => ?_) (fun k18 => ?_)
        · refine lv_iload_n hC.1 hC.2.1 dX6_leastDark_25 rfl (lv_at hl 2 rfl) ?_
          refine lv_istore_n (lv' := [(2, .int y2_6), (0, .ref (q 0)), (1, .int (nI x1)), (3, .int (nI ((n6 + 1) + 49)))]) hC.1 hC.2.1 dX6_leastDark_26 rfl hl (by decide) rfl (fun ls hl => ?_)
          refine lv_iinc (v := nI (n6 + 49)) (lv' := [(3, .int (nI (n6 + 49))), (2, .int y2_6), (0, .ref (q 0)), (1, .int (nI x1))]) hC.1 hC.2.1 dX6_leastDark_27 hl (k := 3) rfl (pk_m1 (n6 + 49)) (by decide) rfl (fun ls hl => ?_)
          refine lv_goto (tgt := 6) hC.1 hC.2.1 dX6_leastDark_30 (by decide) ?_
          have e_2 : bX6_leastDark_6 v x1 (n6 + 1) y2_6 = y2_6 := by delta bX6_leastDark_6; exact Eq.trans (if_pos k18) rfl
          have hg : fX6_leastDark v x1 = (tX6_leastDark_6 v x1 (lpD n6 (bX6_leastDark_6 v x1) y2_6)) := by have e2 := congrArg (fun z => (tX6_leastDark_6 v x1 (lpD n6 (bX6_leastDark_6 v x1) z))) e_2; exact hg.trans e2
          exact ih y2_6 (by omega) hg hI _ (lv_sub hl [2, 3, 1, 0] rfl)
        · refine lv_iload_n hC.1 hC.2.1 dX6_leastDark_21 rfl (lv_at hl 3 rfl) ?_
          refine lv_goto (tgt := 26) hC.1 hC.2.1 dX6_leastDark_22 (by decide) ?_
          refine lv_istore_n (lv' := [(2, .int (nI ((n6 + 1) + 49))), (0, .ref (q 0)), (1, .int (nI x1)), (3, .int (nI ((n6 + 1) + 49)))]) hC.1 hC.2.1 dX6_leastDark_26 rfl hl (by decide) rfl (fun ls hl => ?_)
          refine lv_iinc (v := nI (n6 + 49)) (lv' := [(3, .int (nI (n6 + 49))), (2, .int (nI ((n6 + 1) + 49))), (0, .ref (q 0)), (1, .int (nI x1))]) hC.1 hC.2.1 dX6_leastDark_27 hl (k := 3) rfl (pk_m1 (n6 + 49)) (by decide) rfl (fun ls hl => ?_)
          refine lv_goto (tgt := 6) hC.1 hC.2.1 dX6_leastDark_30 (by decide) ?_
          have e_3 : bX6_leastDark_6 v x1 (n6 + 1) y2_6 = nI ((n6 + 1) + 49) := by delta bX6_leastDark_6; exact Eq.trans (if_neg k18) rfl
          have hg : fX6_leastDark v x1 = (tX6_leastDark_6 v x1 (lpD n6 (bX6_leastDark_6 v x1) (nI ((n6 + 1) + 49)))) := by have e2 := congrArg (fun z => (tX6_leastDark_6 v x1 (lpD n6 (bX6_leastDark_6 v x1) z))) e_3; exact hg.trans e2
          exact ih (nI ((n6 + 1) + 49)) (by omega) hg hI _ (lv_sub hl [2, 3, 1, 0] rfl)
  have e_4 : fX6_leastDark v x1 = tX6_leastDark_6 v x1 (lpD 251 (bX6_leastDark_6 v x1) (-1)) := by delta fX6_leastDark; exact rfl
  have hg : fX6_leastDark v x1 = (tX6_leastDark_6 v x1 (lpD 251 (bX6_leastDark_6 v x1) (-1))) := by have e2 := congrArg (fun z => z) e_4; exact hg.trans e2
  exact L6  251 (-1) (Nat.le_refl _) hg hI _ (lv_sub hl [2, 3, 1, 0] rfl)

theorem dX6_darkFrom_0 : decode cX6_darkFrom 0 = .ok (.aload_n 0, 1) := by decide +kernel
theorem dX6_darkFrom_1 : decode cX6_darkFrom 1 = .ok (.iconst 0, 1) := by decide +kernel
theorem dX6_darkFrom_2 : decode cX6_darkFrom 2 = .ok (.putfield 34, 3) := by decide +kernel
theorem dX6_darkFrom_5 : decode cX6_darkFrom 5 = .ok (.iload_n 1, 1) := by decide +kernel
theorem dX6_darkFrom_6 : decode cX6_darkFrom 6 = .ok (.iconst 0, 1) := by decide +kernel
theorem dX6_darkFrom_7 : decode cX6_darkFrom 7 = .ok (.bipush 23, 2) := by decide +kernel
theorem dX6_darkFrom_9 : decode cX6_darkFrom 9 = .ok (.invokestatic 39, 3) := by decide +kernel
theorem dX6_darkFrom_12 : decode cX6_darkFrom 12 = .ok (.ifCond .eq 11, 3) := by decide +kernel
theorem dX6_darkFrom_15 : decode cX6_darkFrom 15 = .ok (.aload_n 0, 1) := by decide +kernel
theorem dX6_darkFrom_16 : decode cX6_darkFrom 16 = .ok (.iload_n 1, 1) := by decide +kernel
theorem dX6_darkFrom_17 : decode cX6_darkFrom 17 = .ok (.invokevirtual 204, 3) := by decide +kernel
theorem dX6_darkFrom_20 : decode cX6_darkFrom 20 = .ok (.goto 8, 3) := by decide +kernel
theorem dX6_darkFrom_23 : decode cX6_darkFrom 23 = .ok (.aload_n 0, 1) := by decide +kernel
theorem dX6_darkFrom_24 : decode cX6_darkFrom 24 = .ok (.iconst 1, 1) := by decide +kernel
theorem dX6_darkFrom_25 : decode cX6_darkFrom 25 = .ok (.invokevirtual 46, 3) := by decide +kernel
theorem dX6_darkFrom_28 : decode cX6_darkFrom 28 = .ok (.ireturn, 1) := by decide +kernel
set_option maxHeartbeats 1000000 in
set_option maxRecDepth 100000 in
theorem c_X6_darkFrom (l : Launch) (G : GT) (q : Nat → Nat) (v : SV) (hs : Int64) (x1 : Int32) (hq : mdD G q) (hI : SI (v 0)) : Met l yX6_darkFrom (Cond.code yX6_darkFrom cX6_darkFrom 2 (some .int) :: bigW) ({ frames := 5, cells := 0, slots := 0, locals := 115 }) (BP G [.ref (q 0), .int x1] (fun U H => PW G (mdW G q v hs) H)) (QE (some (.int (fX6_darkFrom v x1).2)) (fun H => PW G (mdW G q (fX6_darkFrom v x1).1 hs) H) (mdA q)) 0 0 (mdA q) := by
  refine met_of (by decide) (Nat.le_of_ble_eq_true rfl) ?_
  intro p e s m below meth c ls hC hKN hB0 hl
  have hP := hB0
  have hl : lv_has ls 2 [(0, .ref (q 0)), (1, .int x1)] := hl
  have hS : va_S (mdA q) s.heap s.heap [] := va_S.rf
  have hAL : ∀ a, (mdA q) a → gL G ≤ a := mdD_low hq
  have hg : fX6_darkFrom v x1 = fX6_darkFrom v x1 := rfl
  refine lv_aload_n hC.1 hC.2.1 dX6_darkFrom_0 rfl (lv_at hl 0 rfl) ?_
  refine lv_iconst (v := 0) hC.1 hC.2.1 dX6_darkFrom_1 (by decide) ?_
  refine pf (v := .int 0) (tv := .int) hC fwX6 hKN hP (mdD_D hq v hs) hS 0 rfl rfl 6 (by decide) rfl wd_893 rfl rfl rfl (Nat.le_of_ble_eq_true rfl) dX6_darkFrom_2 (fun H locs hq_1 hS => ?_)
  have hP : PW G (mdW G q (mkM (v 0) (v 1) (v 2) (v 3) (v 4) (v 5) (v 6) (v 7) (v 8 0) (v 8 1) 0 (v 8 3) (v 8 4) (v 8 5) (v 8 6) (v 8 7) (v 8 8)) hs) H := hq_1
  have hI : SI ((mkM (v 0) (v 1) (v 2) (v 3) (v 4) (v 5) (v 6) (v 7) (v 8 0) (v 8 1) 0 (v 8 3) (v 8 4) (v 8 5) (v 8 6) (v 8 7) (v 8 8)) 0) := hI
  refine lv_iload_n hC.1 hC.2.1 dX6_darkFrom_5 rfl (lv_at hl 1 rfl) ?_
  refine lv_iconst (v := 0) hC.1 hC.2.1 dX6_darkFrom_6 (by decide) ?_
  refine lv_bipush (v := 23) hC.1 hC.2.1 dX6_darkFrom_7 (by decide +kernel) ?_
  refine runP (rS (B := fun U H => True) (As := [.int x1, .int 0, .int 23]) (rest := []) hC mwX6_in (c_X6_in l G x1 0 23) wd_975 wd_974 ⟨rfl, rfl⟩ ⟨Nat.le_of_ble_eq_true rfl, Nat.le_of_ble_eq_true rfl⟩ (fun _ _ _ _ h => h) (hKN.go hAL hS) trivial rfl hl.1 rfl (Nat.le_of_ble_eq_true rfl) dX6_darkFrom_9 ⟨Nat.zero_le _, Nat.zero_le _⟩) ?_
  refine lv_if_eq (tgt := 23) hC.1 hC.2.1 dX6_darkFrom_12 (by decide) (fun k12 => ?_) (fun k12 => ?_)
  · refine lv_aload_n hC.1 hC.2.1 dX6_darkFrom_23 rfl (lv_at hl 0 rfl) ?_
    refine lv_iconst (v := 1) hC.1 hC.2.1 dX6_darkFrom_24 (by decide) ?_
    refine runE (rV (B := fun U H => PW G (mdW G q (mkM (v 0) (v 1) (v 2) (v 3) (v 4) (v 5) (v 6) (v 7) (v 8 0) (v 8 1) 0 (v 8 3) (v 8 4) (v 8 5) (v 8 6) (v 8 7) (v 8 8)) hs) H) (As := [.int 1]) (rest := []) hC mwX6_fails (c_X6_fails l G q (mkM (v 0) (v 1) (v 2) (v 3) (v 4) (v 5) (v 6) (v 7) (v 8 0) (v 8 1) 0 (v 8 3) (v 8 4) (v 8 5) (v 8 6) (v 8 7) (v 8 8)) hs 1 hq) iwX6_fails wd_950 ⟨rfl, rfl⟩ ⟨Nat.le_of_ble_eq_true rfl, Nat.le_of_ble_eq_true rfl⟩ (stb_h (fun H => PW G (mdW G q (mkM (v 0) (v 1) (v 2) (v 3) (v 4) (v 5) (v 6) (v 7) (v 8 0) (v 8 1) 0 (v 8 3) (v 8 4) (v 8 5) (v 8 6) (v 8 7) (v 8 8)) hs) H)) (hKN.go hAL hS) hP (va_recv (hKN.go hAL hS).k hP (ci := 6) (q0 := 0) rfl rfl) rfl hl.1 rfl (Nat.le_of_ble_eq_true rfl) dX6_darkFrom_25 ⟨Nat.zero_le _, Nat.zero_le _⟩) hS (fun _ h => h) (fun _ h => h) (fun H locs hq_2 _ _ hS => ?_)
    have hP : PW G (mdW G q ((fX6_fails (mkM (v 0) (v 1) (v 2) (v 3) (v 4) (v 5) (v 6) (v 7) (v 8 0) (v 8 1) 0 (v 8 3) (v 8 4) (v 8 5) (v 8 6) (v 8 7) (v 8 8)) 1).1) hs) H := hq_2
    obtain ⟨r_3, er_3⟩ : ∃ z, z = fX6_fails (mkM (v 0) (v 1) (v 2) (v 3) (v 4) (v 5) (v 6) (v 7) (v 8 0) (v 8 1) 0 (v 8 3) (v 8 4) (v 8 5) (v 8 6) (v 8 7) (v 8 8)) 1 := ⟨_, rfl⟩
    rw [← er_3] at hP
    show W p l e ({ frames := 5, cells := 0, slots := 0, locals := 115 }) s m ([.ref (q 0), .int x1] : List Value).toArray below meth c H locs (0 + 0) (0 + 0) _ (F0 m (25 + 3) ls [.int ((fX6_fails (mkM (v 0) (v 1) (v 2) (v 3) (v 4) (v 5) (v 6) (v 7) (v 8 0) (v 8 1) 0 (v 8 3) (v 8 4) (v 8 5) (v 8 6) (v 8 7) (v 8 8)) 1).2)])
    rw [← er_3]
    have hI : True := trivial
    have e_4 : fX6_darkFrom v x1 = (r_3.1, r_3.2) := by have q_ := er_3.symm; subst q_; delta fX6_darkFrom; exact Eq.trans (if_pos k12) rfl
    have hg : fX6_darkFrom v x1 = (r_3.1, r_3.2) := by have e2 := congrArg (fun z => z) e_4; exact hg.trans e2
    exact eE_i hC (by rw [hg]) (by show PW G (mdW G q (fX6_darkFrom v x1).1 hs) H; rw [hg]; exact hP) hS dX6_darkFrom_28
  · refine lv_aload_n hC.1 hC.2.1 dX6_darkFrom_15 rfl (lv_at hl 0 rfl) ?_
    refine lv_iload_n hC.1 hC.2.1 dX6_darkFrom_16 rfl (lv_at hl 1 rfl) ?_
    refine lv_topi (fun w_5 ew_5 => ?_)
    rw [show w_5 = nI x1.toNatClampNeg from ew_5.trans (lq (in_nat (b := 23) (by omega) k12))]
    refine runP (rV (B := fun U H => PW G (mdW G q (mkM (v 0) (v 1) (v 2) (v 3) (v 4) (v 5) (v 6) (v 7) (v 8 0) (v 8 1) 0 (v 8 3) (v 8 4) (v 8 5) (v 8 6) (v 8 7) (v 8 8)) hs) H) (As := [.int (nI x1.toNatClampNeg)]) (rest := []) hC mwX6_leastDark (c_X6_leastDark l G q (mkM (v 0) (v 1) (v 2) (v 3) (v 4) (v 5) (v 6) (v 7) (v 8 0) (v 8 1) 0 (v 8 3) (v 8 4) (v 8 5) (v 8 6) (v 8 7) (v 8 8)) hs x1.toNatClampNeg hI (by have := (in_nat (b := 23) (by omega) k12).2; omega)) iwX6_leastDark wd_1190 ⟨rfl, rfl⟩ ⟨Nat.le_of_ble_eq_true rfl, Nat.le_of_ble_eq_true rfl⟩ (stb_h (fun H => PW G (mdW G q (mkM (v 0) (v 1) (v 2) (v 3) (v 4) (v 5) (v 6) (v 7) (v 8 0) (v 8 1) 0 (v 8 3) (v 8 4) (v 8 5) (v 8 6) (v 8 7) (v 8 8)) hs) H)) (hKN.go hAL hS) hP (va_recv (hKN.go hAL hS).k hP (ci := 6) (q0 := 0) rfl rfl) rfl hl.1 rfl (Nat.le_of_ble_eq_true rfl) dX6_darkFrom_17 ⟨Nat.zero_le _, Nat.zero_le _⟩) ?_
    refine lv_goto (tgt := 28) hC.1 hC.2.1 dX6_darkFrom_20 (by decide) ?_
    have e_6 : fX6_darkFrom v x1 = (mkM (v 0) (v 1) (v 2) (v 3) (v 4) (v 5) (v 6) (v 7) (v 8 0) (v 8 1) 0 (v 8 3) (v 8 4) (v 8 5) (v 8 6) (v 8 7) (v 8 8), fX6_leastDark (mkM (v 0) (v 1) (v 2) (v 3) (v 4) (v 5) (v 6) (v 7) (v 8 0) (v 8 1) 0 (v 8 3) (v 8 4) (v 8 5) (v 8 6) (v 8 7) (v 8 8)) x1.toNatClampNeg) := by delta fX6_darkFrom; exact Eq.trans (if_neg k12) rfl
    have hg : fX6_darkFrom v x1 = (mkM (v 0) (v 1) (v 2) (v 3) (v 4) (v 5) (v 6) (v 7) (v 8 0) (v 8 1) 0 (v 8 3) (v 8 4) (v 8 5) (v 8 6) (v 8 7) (v 8 8), fX6_leastDark (mkM (v 0) (v 1) (v 2) (v 3) (v 4) (v 5) (v 6) (v 7) (v 8 0) (v 8 1) 0 (v 8 3) (v 8 4) (v 8 5) (v 8 6) (v 8 7) (v 8 8)) x1.toNatClampNeg) := by have e2 := congrArg (fun z => z) e_6; exact hg.trans e2
    exact eE_i hC (by rw [hg]) (by show PW G (mdW G q (fX6_darkFrom v x1).1 hs) H; rw [hg]; exact hP) hS dX6_darkFrom_28
