def fX5_at (n1 : Nat) (f1 : Nat → Int32) (x2 : Int32) : Int32 := if x2 < 0 then (0) else (if (nI n1) ≤ x2 then (0) else (f1 x2.toNatClampNeg))
def fX5_bitOf (x1 : Int32) (x2 : Int32) : Int32 := if x2 < 0 then (0) else (if 24 ≤ x2 then (0) else ((x1 >>> (x2 &&& 31)) &&& 1))
def fX5_isWithin (x1 : Int32) (x2 : Int32) (x3 : Int32) : Int32 := if x1 < x2 then (0) else (if x3 < x1 then (0) else (1))
def fX5_isLine (x1 : Int32) : Int32 := fX5_isWithin x1 0 16777215
def fX5_isDot (x1 : Int32) : Int32 := fX5_isWithin x1 0 23
def fX2_cooled (x1 : Int32) (x2 : Int32) : Int32 := if 1 ≤ x2 then (if 0 ≤ ((x1 - (x1 / x2)) - 1) then ((x1 - (x1 / x2)) - 1) else (0)) else (0)
def fX2_setting (v : SV) (x1 : Int32) : Int32 := fX5_at 7 (v 2) x1
def fX2_dotsAtOnce (v : SV) : Int32 := if 1 ≤ (fX5_at 7 (v 2) 3) then ((if 1 < ((fX5_at 7 (v 2) 4) / (fX5_at 7 (v 2) 3)) then ((fX5_at 7 (v 2) 4) / (fX5_at 7 (v 2) 3)) else 1)) else (1)
def fX2_pulseIn (v : SV) (x1 : Int32) (x2 : Int32) (x3 : Int32) : Int32 := (if 20 < ((x3 + (fX5_at 3 st3 (v 8 10))) - (((20 * (fX5_bitOf (v 8 8) x2)) + (10 * (fX5_bitOf (v 8 9) x2))) + (5 * ((fX5_bitOf x1 (x2 - 1)) + (fX5_bitOf x1 (x2 + 1)))))) then ((x3 + (fX5_at 3 st3 (v 8 10))) - (((20 * (fX5_bitOf (v 8 8) x2)) + (10 * (fX5_bitOf (v 8 9) x2))) + (5 * ((fX5_bitOf x1 (x2 - 1)) + (fX5_bitOf x1 (x2 + 1)))))) else 20)
def fX2_pulseAlone (v : SV) (x1 : Int32) (x2 : Int32) : Int32 := fX2_pulseIn v 0 x1 x2
def tX2_cooledFor_15 (v : SV) (x1 : Int32) (x2 : Int32) (y3_15 : Int32) (s : Int32 × Int32) : Int32 := let y4_15 := s.1; let y5_15 := s.2; y4_15
def bX2_cooledFor_15 (v : SV) (x1 : Int32) (x2 : Int32) (y3_15 : Int32) (s : Int32 × Int32) : Bool × (Int32 × Int32) := let y4_15 := s.1; let y5_15 := s.2; if x2 ≤ y5_15 then ((false, (y4_15, y5_15))) else (if y4_15 ≤ 0 then ((false, (y4_15, y5_15))) else ((true, (fX2_cooled y4_15 y3_15, y5_15 + 1))))
def fX2_cooledFor (v : SV) (x1 : Int32) (x2 : Int32) : Int32 := tX2_cooledFor_15 v x1 x2 (fX5_at 7 (v 2) 1) (lpB (x2.toNatClampNeg + 1) (bX2_cooledFor_15 v x1 x2 (fX5_at 7 (v 2) 1)) (x1, 0))
def tX2_timeDownTo_15 (v : SV) (x1 : Int32) (x2 : Int32) (y3_15 : Int32) (s : Int32 × Int32) : Int32 := let y4_15 := s.1; let y5_15 := s.2; y5_15
def bX2_timeDownTo_15 (v : SV) (x1 : Int32) (x2 : Int32) (y3_15 : Int32) (s : Int32 × Int32) : Bool × (Int32 × Int32) := let y4_15 := s.1; let y5_15 := s.2; if y4_15 ≤ x2 then ((false, (y4_15, y5_15))) else (if 1000000 ≤ y5_15 then ((false, (y4_15, y5_15))) else ((true, (fX2_cooled y4_15 y3_15, y5_15 + 1))))
def fX2_timeDownTo (v : SV) (x1 : Int32) (x2 : Int32) : Int32 := tX2_timeDownTo_15 v x1 x2 (fX5_at 7 (v 2) 1) (lpB (mS + 1) (bX2_timeDownTo_15 v x1 x2 (fX5_at 7 (v 2) 1)) (x1, 0))
def fX2_waitFor (v : SV) (x1 : Int32) (x2 : Int32) : Int32 := fX2_timeDownTo v x1 ((fX5_at 7 (v 2) 2) - x2)
def fX2_isDark (v : SV) (x1 : Int32) : Int32 := if x1 < (fX5_at 3 st4 (v 8 10)) then (0) else (1)
def tX2_hottestDot_4 (v : SV) (s : Int32) : Int32 := let y1_4 := s; y1_4
def bX2_hottestDot_4 (v : SV) (d4 : Nat) (s : Int32) : Int32 := let y1_4 := s; (if y1_4 < ((v 0) d4) then ((v 0) d4) else y1_4)
def fX2_hottestDot (v : SV) : Int32 := tX2_hottestDot_4 v (lpF 24 0 (bX2_hottestDot_4 v) 0)
def fX2_timeUntilCool (v : SV) (x1 : Int32) : Int32 := fX2_timeDownTo v (fX2_hottestDot v) x1
def tX2_leastDarkSetting_16 (v : SV) (x1 : Int32) (s : Unit) : Int32 := (-1)
def bX2_leastDarkSetting_16 (v : SV) (x1 : Int32) (d16 : Nat) (s : Unit) : (Unit) ⊕ (Int32) := if (fX2_isDark v ((fX2_cooledFor v (fX5_at 24 (v 0) x1) (fX2_waitFor v (fX5_at 24 (v 0) x1) (fX2_pulseAlone v x1 (nI d16)))) + (fX2_pulseAlone v x1 (nI d16)))) = 0 then (Sum.inl ()) else (Sum.inr (nI d16))
def fX2_leastDarkSetting (v : SV) (x1 : Int32) : Int32 := Sum.elim (tX2_leastDarkSetting_16 v x1) id (lpR (301 - 50) 50 (bX2_leastDarkSetting_16 v x1) ())
def tX2_dotsOfPart_41 (v : SV) (x1 : Int32) (x2 : Int32) (x3 : Int32) (x4 : Int32) (y5_41 : Int32) (s : Int32 × Int32) : Int32 := let y6_41 := s.1; let y7_41 := s.2; y6_41
def tX2_dotsOfPart_J75 (v : SV) (x1 : Int32) (x2 : Int32) (x3 : Int32) (x4 : Int32) (y5_41 : Int32) (d41 : Nat) (y6_75 : Int32) (y7_75 : Int32) (z0_75 : Int32) : Int32 × Int32 := if z0_75 = x2 then ((y6_75 ||| (1 <<< ((nI d41) &&& 31)), y7_75 + 1)) else ((y6_75, y7_75 + 1))
def bX2_dotsOfPart_41 (v : SV) (x1 : Int32) (x2 : Int32) (x3 : Int32) (x4 : Int32) (y5_41 : Int32) (d41 : Nat) (s : Int32 × Int32) : Int32 × Int32 := let y6_41 := s.1; let y7_41 := s.2; if (fX5_bitOf x1 (nI d41)) = 1 then (if y5_41 = 0 then (tX2_dotsOfPart_J75 v x1 x2 x3 x4 y5_41 d41 y6_41 y7_41 (y7_41 / x4)) else (tX2_dotsOfPart_J75 v x1 x2 x3 x4 y5_41 d41 y6_41 y7_41 (y7_41 - y7_41 / x3 * x3))) else ((y6_41, y7_41))
def tX2_dotsOfPart_J30 (v : SV) (x1 : Int32) (x2 : Int32) (x3 : Int32) (x4 : Int32) (z0_30 : Int32) : Int32 := tX2_dotsOfPart_41 v x1 x2 x3 x4 z0_30 (lpF 24 0 (bX2_dotsOfPart_41 v x1 x2 x3 x4 z0_30) (0, 0))
def fX2_dotsOfPart (v : SV) (x1 : Int32) (x2 : Int32) (x3 : Int32) (x4 : Int32) : Int32 := if x3 < 1 then (0) else (if 1 ≤ x4 then (if (fX5_at 7 (v 2) 5) = 1 then (tX2_dotsOfPart_J30 v x1 x2 x3 x4 1) else (tX2_dotsOfPart_J30 v x1 x2 x3 x4 0)) else (0))
def tX2_waitOfPart_14 (v : SV) (x1 : Int32) (y2_14 : Int32) (s : Int32) : Int32 := let y3_14 := s; y3_14
def bX2_waitOfPart_14 (v : SV) (x1 : Int32) (y2_14 : Int32) (d14 : Nat) (s : Int32) : Int32 := let y3_14 := s; if (fX5_bitOf x1 (nI d14)) = 1 then ((if y3_14 < (fX2_timeDownTo v (fX5_at 24 (v 0) (nI d14)) (y2_14 - (fX5_at 24 (v 1) (nI d14)))) then (fX2_timeDownTo v (fX5_at 24 (v 0) (nI d14)) (y2_14 - (fX5_at 24 (v 1) (nI d14)))) else y3_14)) else (y3_14)
def fX2_waitOfPart (v : SV) (x1 : Int32) : Int32 := tX2_waitOfPart_14 v x1 (fX5_at 7 (v 2) 2) (lpF 24 0 (bX2_waitOfPart_14 v x1 (fX5_at 7 (v 2) 2)) 0)
def tX2_longestPulse_4 (v : SV) (x1 : Int32) (s : Int32) : Int32 := let y2_4 := s; y2_4
def bX2_longestPulse_4 (v : SV) (x1 : Int32) (d4 : Nat) (s : Int32) : Int32 := let y2_4 := s; if (fX5_bitOf x1 (nI d4)) = 1 then ((if y2_4 < ((v 1) d4) then ((v 1) d4) else y2_4)) else (y2_4)
def fX2_longestPulse (v : SV) (x1 : Int32) : Int32 := tX2_longestPulse_4 v x1 (lpF 24 0 (bX2_longestPulse_4 v x1) 0)
def fX2_numberOfDot (v : SV) (x1 : Int32) (x2 : Int32) : Int32 := if x2 = 0 then (fX5_at 24 (v 0) x1) else if x2 = 1 then (fX5_bitOf (v 8 8) x1) else if x2 = 2 then (fX5_bitOf (v 8 9) x1) else if x2 = 3 then (fX5_at 24 (v 6) x1) else if x2 = 4 then (fX5_at 24 (v 7) x1) else if x2 = 5 then (fX2_pulseAlone v x1 (fX5_at 7 (v 2) 0)) else (fX2_waitFor v (fX5_at 24 (v 0) x1) (fX2_pulseAlone v x1 (fX5_at 7 (v 2) 0)))
def fX3_numberOfLine (v : SV) (x1 : Int32) (x2 : Int32) : Int32 := if x1 < 0 then ((-1)) else (if x1 < (v 8 0) then (if x2 = 0 then (fX5_at 12 (v 3) x1) else if x2 = 1 then (fX5_at 12 (v 4) x1) else (fX5_at 12 (v 5) x1)) else ((-1)))
def fX3_textLength (v : SV) (x1 : Int32) : Int32 := 24 + (if 0 < ((fX5_at 12 (v 5) x1) - 1) then ((fX5_at 12 (v 5) x1) - 1) else 0)
def fX3_sign (v : SV) (x1 : Int32) (x2 : Int32) : Int32 := if x1 < 0 then ((-1)) else (if (v 8 0) ≤ x1 then ((-1)) else (if x2 < 0 then ((-1)) else (if x2 < (fX3_textLength v x1) then (if x2 < 24 then (if (fX5_bitOf (fX5_at 12 (v 3) x1) x2) = 1 then (35) else (if (fX5_bitOf (fX5_at 12 (v 4) x1) x2) = 1 then (43) else (46))) else (124)) else ((-1)))))
def tX4_dotByDot_4 (v : SV) (s : Int32) : Int32 := let y1_4 := s; y1_4
def bX4_dotByDot_4 (v : SV) (d4 : Nat) (s : Int32) : Int32 := let y1_4 := s; y1_4 + ((v 6) d4)
def fX4_dotByDot (v : SV) : Int32 := tX4_dotByDot_4 v (lpF 24 0 (bX4_dotByDot_4 v) 0)
def fX5_put (n1 : Nat) (f1 : Nat → Int32) (x2 : Int32) (x3 : Int32) : (Nat → Int32) := if x2 < 0 then (f1) else (if (nI n1) ≤ x2 then (f1) else (upd f1 x2.toNatClampNeg x3))
def tX3_pushFront_5 (f1 : Nat → Int32) (x2 : Int32) (s : (Nat → Int32)) : (Nat → Int32) := let f_5 := s; fX5_put 12 f_5 0 x2
def bX3_pushFront_5 (f1 : Nat → Int32) (x2 : Int32) (d : Nat) (s : (Nat → Int32)) : (Nat → Int32) := let f_5 := s; upd f_5 d (f_5 (d - 1))
def fX3_pushFront (f1 : Nat → Int32) (x2 : Int32) : (Nat → Int32) := tX3_pushFront_5 f1 x2 (lpD 11 (bX3_pushFront_5 f1 x2) f1)
def tX4_addDots_2 (f1 : Nat → Int32) (x2 : Int32) (s : (Nat → Int32)) : (Nat → Int32) := let f_2 := s; f_2
def bX4_addDots_2 (f1 : Nat → Int32) (x2 : Int32) (d2 : Nat) (s : (Nat → Int32)) : (Nat → Int32) := let f_2 := s; upd f_2 d2 ((f_2 d2) + (fX5_bitOf x2 (nI d2)))
def fX4_addDots (f1 : Nat → Int32) (x2 : Int32) : (Nat → Int32) := tX4_addDots_2 f1 x2 (lpF 24 0 (bX4_addDots_2 f1 x2) f1)
def tX2_preparePulses_11 (v : SV) (x1 : Int32) (y2_11 : Int32) (s : SV) : SV := let v_11 := s; v_11
def bX2_preparePulses_11 (v : SV) (x1 : Int32) (y2_11 : Int32) (d11 : Nat) (s : SV) : SV := let v_11 := s; sr v_11 1 (upd (v_11 1) d11 (fX2_pulseIn v_11 x1 (nI d11) y2_11))
def fX2_preparePulses (v : SV) (x1 : Int32) : SV := tX2_preparePulses_11 v x1 (fX5_at 7 (v 2) 0) (lpF 24 0 (bX2_preparePulses_11 v x1 (fX5_at 7 (v 2) 0)) v)
def tX2_heatPart_4 (v : SV) (x1 : Int32) (s : Int32 × SV) : SV × Int32 := let y2_4 := s.1; let v_4 := s.2; (v_4, y2_4)
def bX2_heatPart_4 (v : SV) (x1 : Int32) (d4 : Nat) (s : Int32 × SV) : Int32 × SV := let y2_4 := s.1; let v_4 := s.2; if (fX5_bitOf x1 (nI d4)) = 1 then (if (fX2_isDark (ss (sr v_4 0 (upd (v_4 0) d4 (((v_4 0) d4) + (fX5_at 24 (v_4 1) (nI d4))))) 8 7 (if (v_4 8 7) < ((upd (v_4 0) d4 (((v_4 0) d4) + (fX5_at 24 (v_4 1) (nI d4)))) d4) then ((upd (v_4 0) d4 (((v_4 0) d4) + (fX5_at 24 (v_4 1) (nI d4)))) d4) else (v_4 8 7))) ((upd (v_4 0) d4 (((v_4 0) d4) + (fX5_at 24 (v_4 1) (nI d4)))) d4)) = 0 then ((y2_4 ||| 0, ss (sr v_4 0 (upd (v_4 0) d4 (((v_4 0) d4) + (fX5_at 24 (v_4 1) (nI d4))))) 8 7 (if (v_4 8 7) < ((upd (v_4 0) d4 (((v_4 0) d4) + (fX5_at 24 (v_4 1) (nI d4)))) d4) then ((upd (v_4 0) d4 (((v_4 0) d4) + (fX5_at 24 (v_4 1) (nI d4)))) d4) else (v_4 8 7)))) else ((y2_4 ||| (1 <<< ((nI d4) &&& 31)), ss (sr v_4 0 (upd (v_4 0) d4 (((v_4 0) d4) + (fX5_at 24 (v_4 1) (nI d4))))) 8 7 (if (v_4 8 7) < ((upd (v_4 0) d4 (((v_4 0) d4) + (fX5_at 24 (v_4 1) (nI d4)))) d4) then ((upd (v_4 0) d4 (((v_4 0) d4) + (fX5_at 24 (v_4 1) (nI d4)))) d4) else (v_4 8 7))))) else ((y2_4, v_4))
def fX2_heatPart (v : SV) (x1 : Int32) : SV × Int32 := tX2_heatPart_4 v x1 (lpF 24 0 (bX2_heatPart_4 v x1) (0, v))
def tX2_passTime_2 (v : SV) (x1 : Int32) (s : SV) : SV := let v_2 := s; ss v_2 8 1 ((v_2 8 1) + x1)
def bX2_passTime_2 (v : SV) (x1 : Int32) (d2 : Nat) (s : SV) : SV := let v_2 := s; sr v_2 0 (upd (v_2 0) d2 (fX2_cooledFor v_2 ((v_2 0) d2) x1))
def fX2_passTime (v : SV) (x1 : Int32) : SV := tX2_passTime_2 v x1 (lpF 24 0 (bX2_passTime_2 v x1) v)
def fX2_changePaper (v : SV) (x1 : Int32) : SV := ss (ss v 8 0 0) 8 10 x1
def fX2_changeSetting (v : SV) (x1 : Int32) (x2 : Int32) : SV := sr v 2 (fX5_put 7 (v 2) x1 x2)
