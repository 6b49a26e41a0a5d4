def tL_prints_J558 (v : SV) (x6 : Int32) (y6_558 : Int32) (y8_558 : Int32) (z2_558 : Int32) (v_558 : SV) : SV := let w_21 : Int32 := ((upd (v_558 4) 12 z2_558) 8) - y6_558; let w_24 : Int32 := fL_ones ((v_558 3) 1); mkL (v_558 0) (v_558 1) (v_558 2) (v_558 3) (upd (upd (upd (upd (v_558 4) 12 z2_558) 16 w_21) 18 y8_558) 19 w_24)
def tL_prints_J477 (v : SV) (x6 : Int32) (y6_477 : Int32) (y8_477 : Int32) (z2_477 : Int32) (z3_477 : Int32) (v_477 : SV) : SV := let w_9 : Int32 := z2_477 + z3_477; let w_11 : Int32 := (upd (v_477 4) 15 w_9) 13; let w_14 : Int32 := ((upd (upd (upd (v_477 4) 15 w_9) 14 w_11) 13 x6) 9) + 1; let w_16 : Int32 := ((upd (upd (upd (upd (v_477 4) 15 w_9) 14 w_11) 13 x6) 9 w_14) 10) + y8_477; let w_18 : Int32 := ((upd (upd (upd (upd (upd (v_477 4) 15 w_9) 14 w_11) 13 x6) 9 w_14) 10 w_16) 11) + ((upd (upd (upd (upd (upd (v_477 4) 15 w_9) 14 w_11) 13 x6) 9 w_14) 10 w_16) 17); if ((upd (upd (upd (upd (upd (upd (v_477 4) 15 w_9) 14 w_11) 13 x6) 9 w_14) 10 w_16) 11 w_18) 20) ≤ ((upd (upd (upd (upd (upd (upd (v_477 4) 15 w_9) 14 w_11) 13 x6) 9 w_14) 10 w_16) 11 w_18) 12) then (tL_prints_J558 v x6 y6_477 y8_477 ((upd (upd (upd (upd (upd (upd (v_477 4) 15 w_9) 14 w_11) 13 x6) 9 w_14) 10 w_16) 11 w_18) 12) (mkL (v_477 0) (v_477 1) (v_477 2) (v_477 3) (upd (upd (upd (upd (upd (upd (v_477 4) 15 w_9) 14 w_11) 13 x6) 9 w_14) 10 w_16) 11 w_18))) else (tL_prints_J558 v x6 y6_477 y8_477 ((upd (upd (upd (upd (upd (upd (v_477 4) 15 w_9) 14 w_11) 13 x6) 9 w_14) 10 w_16) 11 w_18) 20) (mkL (v_477 0) (v_477 1) (v_477 2) (v_477 3) (upd (upd (upd (upd (upd (upd (v_477 4) 15 w_9) 14 w_11) 13 x6) 9 w_14) 10 w_16) 11 w_18)))
def tL_prints_416 (v : SV) (x6 : Int32) (y6_416 : Int32) (y8_416 : Int32) (y9_416 : Int32) (s : SV) : SV := let v_416 := s; let w_6 : Int32 := x6 ^^^ y9_416; if 12 ≤ ((v_416 4) 15) then (tL_prints_J477 v x6 y6_416 y8_416 ((v_416 4) 15) 0 (mkL (v_416 0) (v_416 1) (v_416 2) (upd (upd (upd (v_416 3) 0 y9_416) 1 w_6) 2 y8_416) (v_416 4))) else (tL_prints_J477 v x6 y6_416 y8_416 ((v_416 4) 15) 1 (mkL (v_416 0) (v_416 1) (v_416 2) (upd (upd (upd (v_416 3) 0 y9_416) 1 w_6) 2 y8_416) (v_416 4)))
def bL_prints_416 (v : SV) (x6 : Int32) (y6_416 : Int32) (y8_416 : Int32) (y9_416 : Int32) (d : Nat) (s : SV) : SV := let v_416 := s; let w_31 : Int32 := (v_416 3) ((d + 2) - 3); mkL (v_416 0) (v_416 1) (v_416 2) (upd (v_416 3) (d + 2) w_31) (v_416 4)
def tL_prints_79 (v : SV) (x6 : Int32) (y6_79 : Int32) (y8_79 : Int32) (s : Int32 × SV) : SV := let y9_79 := s.1; let v_79 := s.2; let r_4 := fL_passes v_79 ((v_79 4) 6)
  tL_prints_416 v x6 y6_79 y8_79 y9_79 (lpD 33 (bL_prints_416 v x6 y6_79 y8_79 y9_79) r_4)
def tL_prints_218 (v : SV) (x6 : Int32) (y6_79 : Int32) (y8_79 : Int32) (d79 : Nat) (s : Int32 × Int32 × SV) : Int32 × SV := let y9_218 := s.1; let y12_218 := s.2.1; let v_218 := s.2.2; let r_36 := fL_passes v_218 ((y12_218 / 10) + 1)
  (y9_218, r_36)
def tL_prints_J374 (v : SV) (x6 : Int32) (y6_79 : Int32) (y8_79 : Int32) (d79 : Nat) (d218 : Nat) (y9_374 : Int32) (y12_374 : Int32) (z2_374 : Int32) (z3_374 : Int32) (v_374 : SV) : Int32 × Int32 × SV := let w_45 : Int32 := z2_374 + z3_374; (y9_374, y12_374, mkL (v_374 0) (v_374 1) (upd (v_374 2) d218 w_45) (v_374 3) (v_374 4))
def tL_prints_J341 (v : SV) (x6 : Int32) (y6_79 : Int32) (y8_79 : Int32) (d79 : Nat) (d218 : Nat) (y12_341 : Int32) (z0_341 : Int32) (z1_341 : Int32) (v_341 : SV) : Int32 × Int32 × SV := let w_43 : Int32 := ((v_341 1) d218) + 1; if (fL_dark (mkL (v_341 0) (upd (v_341 1) d218 w_43) (v_341 2) (v_341 3) (v_341 4))) ≤ ((v_341 0) d218) then (tL_prints_J374 v x6 y6_79 y8_79 d79 d218 (z0_341 ||| z1_341) y12_341 ((v_341 2) d218) 0 (mkL (v_341 0) (upd (v_341 1) d218 w_43) (v_341 2) (v_341 3) (v_341 4))) else (tL_prints_J374 v x6 y6_79 y8_79 d79 d218 (z0_341 ||| z1_341) y12_341 ((v_341 2) d218) 1 (mkL (v_341 0) (upd (v_341 1) d218 w_43) (v_341 2) (v_341 3) (v_341 4)))
def tL_prints_J318 (v : SV) (x6 : Int32) (y6_79 : Int32) (y8_79 : Int32) (d79 : Nat) (d218 : Nat) (y9_318 : Int32) (y12_318 : Int32) (z2_318 : Int32) (v_318 : SV) : Int32 × Int32 × SV := if (fL_dark (mkL (v_318 0) (v_318 1) (v_318 2) (v_318 3) (upd (v_318 4) 20 z2_318))) ≤ ((v_318 0) d218) then (tL_prints_J341 v x6 y6_79 y8_79 d79 d218 y12_318 y9_318 (1 <<< ((nI d218) &&& 31)) (mkL (v_318 0) (v_318 1) (v_318 2) (v_318 3) (upd (v_318 4) 20 z2_318))) else (tL_prints_J341 v x6 y6_79 y8_79 d79 d218 y12_318 y9_318 0 (mkL (v_318 0) (v_318 1) (v_318 2) (v_318 3) (upd (v_318 4) 20 z2_318)))
def tL_prints_J279 (v : SV) (x6 : Int32) (y6_79 : Int32) (y8_79 : Int32) (d79 : Nat) (d218 : Nat) (y9_279 : Int32) (y14_279 : Int32) (z0_279 : Int32) (v_279 : SV) : Int32 × Int32 × SV := let w_40 : Int32 := ((v_279 0) d218) + y14_279; if ((upd (v_279 0) d218 w_40) d218) ≤ ((v_279 4) 20) then (tL_prints_J318 v x6 y6_79 y8_79 d79 d218 y9_279 z0_279 ((v_279 4) 20) (mkL (upd (v_279 0) d218 w_40) (v_279 1) (v_279 2) (v_279 3) (v_279 4))) else (tL_prints_J318 v x6 y6_79 y8_79 d79 d218 y9_279 z0_279 ((upd (v_279 0) d218 w_40) d218) (mkL (upd (v_279 0) d218 w_40) (v_279 1) (v_279 2) (v_279 3) (v_279 4)))
def bL_prints_218 (v : SV) (x6 : Int32) (y6_79 : Int32) (y8_79 : Int32) (d79 : Nat) (d218 : Nat) (s : Int32 × Int32 × SV) : Int32 × Int32 × SV := let y9_218 := s.1; let y12_218 := s.2.1; let v_218 := s.2.2; if ((x6 >>> ((nI d218) &&& 31)) &&& 1) = 1 then (if (fL_partOf v_218 x6 (nI d218)) = (nI d79) then (if (fL_pulse v_218 x6 (nI d218) ((v_218 4) 0)) ≤ y12_218 then (tL_prints_J279 v x6 y6_79 y8_79 d79 d218 y9_218 (fL_pulse v_218 x6 (nI d218) ((v_218 4) 0)) y12_218 v_218) else (tL_prints_J279 v x6 y6_79 y8_79 d79 d218 y9_218 (fL_pulse v_218 x6 (nI d218) ((v_218 4) 0)) (fL_pulse v_218 x6 (nI d218) ((v_218 4) 0)) v_218)) else ((y9_218, y12_218, v_218))) else ((y9_218, y12_218, v_218))
def tL_prints_89 (v : SV) (x6 : Int32) (y6_79 : Int32) (y8_79 : Int32) (d79 : Nat) (y9_89 : Int32) (s : Int32 × SV) : Int32 × SV := let y11_89 := s.1; let v_89 := s.2; tL_prints_218 v x6 y6_79 y8_79 d79 (lpF 24 0 (bL_prints_218 v x6 y6_79 y8_79 d79) (y9_89, 0, v_89))
def tL_prints_J207 (v : SV) (x6 : Int32) (y6_79 : Int32) (y8_79 : Int32) (d79 : Nat) (y9_89 : Int32) (y11_207 : Int32) (z2_207 : Int32) (z3_207 : Int32) (v_207 : SV) : Bool × (Int32 × SV) := let w_60 : Int32 := z2_207 + z3_207; (true, (y11_207, mkL (v_207 0) (v_207 1) (v_207 2) (v_207 3) (upd (v_207 4) 17 w_60)))
def tL_prints_J188 (v : SV) (x6 : Int32) (y6_79 : Int32) (y8_79 : Int32) (d79 : Nat) (y9_89 : Int32) (y11_188 : Int32) (z2_188 : Int32) (v_188 : SV) : Bool × (Int32 × SV) := let r_59 := fL_passes v_188 z2_188
  if y11_188 = 0 then (tL_prints_J207 v x6 y6_79 y8_79 d79 y9_89 y11_188 ((r_59 4) 17) 0 r_59) else (tL_prints_J207 v x6 y6_79 y8_79 d79 y9_89 y11_188 ((r_59 4) 17) 1 r_59)
def tL_prints_100 (v : SV) (x6 : Int32) (y6_79 : Int32) (y8_79 : Int32) (d79 : Nat) (y9_89 : Int32) (v_100 : SV) (s : Int32) : Bool × (Int32 × SV) := let y11_100 := s; if y11_100 = 0 then (tL_prints_J188 v x6 y6_79 y8_79 d79 y9_89 y11_100 0 v_100) else (tL_prints_J188 v x6 y6_79 y8_79 d79 y9_89 y11_100 1 v_100)
def bL_prints_100 (v : SV) (x6 : Int32) (y6_79 : Int32) (y8_79 : Int32) (d79 : Nat) (y9_89 : Int32) (v_100 : SV) (d100 : Nat) (s : Int32) : Int32 := let y11_100 := s; if y11_100 = 0 then (if ((x6 >>> ((nI d100) &&& 31)) &&& 1) = 1 then (if (fL_partOf v_100 x6 (nI d100)) = (nI d79) then (if (((v_100 0) d100) + (fL_pulse v_100 x6 (nI d100) ((v_100 4) 0))) ≤ ((v_100 4) 2) then (0) else (1)) else (0)) else (0)) else (1)
def bL_prints_89 (v : SV) (x6 : Int32) (y6_79 : Int32) (y8_79 : Int32) (d79 : Nat) (y9_89 : Int32) (s : Int32 × SV) : Bool × (Int32 × SV) := let y11_89 := s.1; let v_89 := s.2; if y11_89 = 0 then ((false, (y11_89, v_89))) else (tL_prints_100 v x6 y6_79 y8_79 d79 y9_89 v_89 (lpF 24 0 (bL_prints_100 v x6 y6_79 y8_79 d79 y9_89 v_89) 0))
def bL_prints_79 (v : SV) (x6 : Int32) (y6_79 : Int32) (y8_79 : Int32) (d79 : Nat) (s : Int32 × SV) : Int32 × SV := let y9_79 := s.1; let v_79 := s.2; tL_prints_89 v x6 y6_79 y8_79 d79 y9_79 (lpB (mT + 3) (bL_prints_89 v x6 y6_79 y8_79 d79 y9_79) (1, v_79))
def tL_prints_J58 (v : SV) (x6 : Int32) (y6_58 : Int32) (z0_58 : Int32) (z1_58 : Int32) (v_58 : SV) : SV := tL_prints_79 v x6 y6_58 (z0_58 + z1_58) (lpF ((z0_58 + z1_58).toNatClampNeg) 0 (bL_prints_79 v x6 y6_58 (z0_58 + z1_58)) (0, mkL (v_58 0) (v_58 1) (v_58 2) (v_58 3) (upd (upd (v_58 4) 17 0) 20 0)))
def tL_prints_J32 (v : SV) (x6 : Int32) (y6_32 : Int32) (z0_32 : Int32) (v_32 : SV) : SV := if ((fL_ones x6) - (fL_ones x6) / z0_32 * z0_32) ≤ 0 then (tL_prints_J58 v x6 y6_32 ((fL_ones x6) / z0_32) 0 v_32) else (tL_prints_J58 v x6 y6_32 ((fL_ones x6) / z0_32) 1 v_32)
def fL_prints (v : SV) (x6 : Int32) : SV := if (((v 4) 4) / ((v 4) 3)) ≤ 0 then (tL_prints_J32 v x6 ((v 4) 8) 1 v) else (tL_prints_J32 v x6 ((v 4) 8) (((v 4) 4) / ((v 4) 3)) v)
theorem less_bd {v : SV} (hI : Lgs v) (x : Int32) : (fL_less x (v 4 1)).toNatClampNeg ≤ x.toNatClampNeg - 1 := by
  obtain ⟨-, ⟨c, h1, h2, h3⟩, -⟩ := hI
  unfold fL_less
  rw [h3]
  have hc : (nI c).toInt = c := nI_toInt (by omega)
  have hx := bd_i x
  obtain ⟨q, q1, q2, q3, q4⟩ := tdivq x.toInt c h1 h2
  have t1 : (x / nI c).toInt = x.toInt.tdiv c := by
    rw [Int32.toInt_div, hc]
    rcases Int.lt_or_le x.toInt 0 with hn | hn
    · rw [q4 hn]; exact Int.bmod_eq_of_le (by omega) (by omega)
    · rw [q3 hn]; exact Int.bmod_eq_of_le (by omega) (by omega)
  have t2 : (x - 1 - x / nI c).toInt = x.toInt - x.toInt.tdiv c - 1 := by
    rw [Int32.sub_sub, Int32.add_comm, ← Int32.sub_sub, Int32.toInt_sub, Int32.toInt_sub, t1]
    show Int.bmod (Int.bmod _ _ - 1) _ = _
    rcases Int.lt_or_le x.toInt 0 with hn | hn
    · rw [q4 hn, Int.bmod_eq_of_le (n := x.toInt - -(q : Int)) (by omega) (by omega)]
      exact Int.bmod_eq_of_le (by omega) (by omega)
    · rw [q3 hn, Int.bmod_eq_of_le (n := x.toInt - (q : Int)) (by omega) (by omega)]
      exact Int.bmod_eq_of_le (by omega) (by omega)
  split
  · rename_i z
    show (x - 1 - x / nI c).toInt.toNat ≤ x.toInt.toNat - 1
    rw [t2]
    rcases Int.lt_or_le x.toInt 0 with hn | hn
    · rw [q4 hn]; omega
    · rw [q3 hn]; omega
  · exact Nat.zero_le _
theorem ite_ap {α : Type} {c : Prop} [Decidable c] (f : Int32 → α) (a b : Int32) : (if c then f a else f b) = f (if c then a else b) := by split <;> rfl
theorem sel_k {t : Int32} (h : t = 0 ∨ t = 1) (k : Int32) : (if t = 1 then k else 0) = k * t := by
  rcases h with rfl | rfl
  · rw [if_neg (by decide), Int32.mul_zero]
  · rw [if_pos rfl, Int32.mul_one]
theorem bitOf_d (x : Int32) {d : Nat} (hd : d < 24) : fX5_bitOf x (nI d) = (x >>> (nI d &&& 31)) &&& 1 := by
  unfold fX5_bitOf
  rw [if_neg (nI_pos (by omega)), if_neg (show ¬ (24 : Int32) ≤ nI d from nI_ge (b := 24) hd (by omega))]
theorem b01 (x : Int32) {d : Nat} (hd : d < 24) : (x >>> (nI d &&& 31)) &&& 1 = 0 ∨ (x >>> (nI d &&& 31)) &&& 1 = 1 := by
  rw [← bitOf_d x hd]; exact bit01 _ _
theorem pl_J126 (v : SV) (x2 x3 x4 z0 z1 : Int32) : tL_pulse_J126 v x2 x3 x4 z0 z1 = if 20 < z0 - z1 then z0 - z1 else 20 := by
  unfold tL_pulse_J126
  by_cases h : 20 < z0 - z1
  · rw [if_pos h, if_neg (Int32.not_le.mpr h)]
  · rw [if_neg h, if_pos (Int32.not_lt.mp h)]
theorem pl_J99 (v : SV) (x2 x4 z0 z1 : Int32) {d : Nat} (hd : d < 24) : tL_pulse_J99 v x2 (nI d) x4 z0 z1 = tL_pulse_J126 v x2 (nI d) x4 (z0 - z1) (5 * fX5_bitOf x2 (nI d + 1)) := by
  unfold tL_pulse_J99
  by_cases h : d = 23
  · subst h
    rw [if_pos (by decide), show fX5_bitOf x2 (nI 23 + 1) = 0 from by unfold fX5_bitOf; rw [if_neg (by decide), if_pos (by decide)], Int32.mul_zero]
  · rw [if_neg (show ¬ (23 : Int32) ≤ nI d from nI_ge (b := 23) (by omega) (by omega)), nI_1, ← bitOf_d x2 (show d + 1 < 24 by omega), ite_ap (fun k => tL_pulse_J126 v x2 (nI d) x4 (z0 - z1) k), sel_k (bit01 _ _)]
theorem pl_J74 (v : SV) (x2 x4 z0 z1 : Int32) {d : Nat} (hd : d < 24) : tL_pulse_J74 v x2 (nI d) x4 z0 z1 = tL_pulse_J99 v x2 (nI d) x4 (z0 - z1) (5 * fX5_bitOf x2 (nI d - 1)) := by
  unfold tL_pulse_J74
  cases d with
  | zero => rw [if_pos (by decide), show fX5_bitOf x2 (nI 0 - 1) = 0 from by unfold fX5_bitOf; rw [if_pos (by decide)], Int32.mul_zero]
  | succ d =>
    rw [if_neg (nI_nle (by omega) (by omega)), show nI (d + 1) - 1 = nI d from nE_sub (a := d + 1) (b := 1) rfl rfl (by omega), ← bitOf_d x2 (show d < 24 by omega), ite_ap (fun k => tL_pulse_J99 v x2 (nI (d + 1)) x4 (z0 - z1) k), sel_k (bit01 _ _)]
theorem chn (B a b c d : Int32) : B - a - b - c - d = B - ((a + b) + (c + d)) := by
  rw [Int32.sub_sub, Int32.sub_sub, Int32.sub_sub, Int32.add_assoc]
theorem pl_J28 (v : SV) (x2 x4 z0 z1 : Int32) {d : Nat} (hd : d < 24) : tL_pulse_J28 v x2 (nI d) x4 z0 z1 = if 20 < (z0 + z1) - ((20 * fX5_bitOf (v 4 13) (nI d) + 10 * fX5_bitOf (v 4 14) (nI d)) + 5 * (fX5_bitOf x2 (nI d - 1) + fX5_bitOf x2 (nI d + 1))) then (z0 + z1) - ((20 * fX5_bitOf (v 4 13) (nI d) + 10 * fX5_bitOf (v 4 14) (nI d)) + 5 * (fX5_bitOf x2 (nI d - 1) + fX5_bitOf x2 (nI d + 1))) else 20 := by
  unfold tL_pulse_J28
  rw [ite_ap (fun k => tL_pulse_J51 v x2 (nI d) x4 (z0 + z1) k), sel_k (b01 _ hd)]
  unfold tL_pulse_J51
  rw [ite_ap (fun k => tL_pulse_J74 v x2 (nI d) x4 (z0 + z1 - 20 * ((v 4 13 >>> (nI d &&& 31)) &&& 1)) k), sel_k (b01 _ hd), pl_J74 _ _ _ _ _ hd, pl_J99 _ _ _ _ _ hd, pl_J126, ← bitOf_d _ hd, ← bitOf_d _ hd, chn, Int32.mul_add]
theorem pulse_L {v : SV} {p : Nat} (hp : v 4 7 = nI p) (hp2 : p ≤ 2) (x2 x4 : Int32) {d : Nat} (hd : d < 24) : fL_pulse v x2 (nI d) x4 = plI (v 4 7) (v 4 13) (v 4 14) x2 (nI d) x4 := by
  unfold fL_pulse plI
  rw [hp]
  match p, hp2 with
  | 0, _ => rw [if_neg (by decide), if_neg (by decide), pl_J28 _ _ _ _ _ hd, st3_0]
  | 1, _ => rw [if_pos (by decide), pl_J28 _ _ _ _ _ hd, st3_1]
  | 2, _ => rw [if_neg (by decide), if_pos (by decide), pl_J28 _ _ _ _ _ hd, st3_2]
  | p + 3, h => exact absurd h (by omega)
theorem pulse_Lb {v : SV} (hI : Lgs v) (x2 : Int32) {d : Nat} (hd : d < 24) : ∃ n, 20 ≤ n ∧ n ≤ 325 ∧ fL_pulse v x2 (nI d) (v 4 0) = nI n := by
  obtain ⟨⟨s, h1, h2, h3⟩, -, -, -, -, -, -, ⟨p, p1, p2⟩⟩ := hI
  rw [pulse_L p2 p1 _ _ hd, h3, p2]
  exact plI_n p1 h1 h2 _ _ _ _
theorem wait_L {v : SV} (hI : Lgs v) {n : Nat} {h : Int32} (h1 : n ≤ 325) (hh : h.toNatClampNeg = 0) : h + nI n ≤ v 4 2 := by
  have s := bd_add (cl_0 hh) (bd_nI (c := n) (a := 0) (b := 325) (by omega) (by omega) (by omega)) (by omega) (by omega)
  obtain ⟨-, -, ⟨c, k1, k2, k3⟩, -⟩ := hI
  rw [k3, Int32.le_iff_toInt_le, nI_toInt (by omega)]
  have := s.2
  omega
theorem passes_1 (w : SV) : ∀ j, j < 24 → fL_passes w 1 0 j = fL_less (w 0 j) (w 4 1) := by
  have h : ∀ j, j < 24 → (lpF 24 0 (bL_passes_18 w 1 0) (mkL (w 0) (w 1) (w 2) (w 3) (upd (w 4) 8 (w 4 8 + 1)))) 0 j = fL_less (w 0 j) (w 4 1) := by
    have h := lpF_0 (fun d (s : SV) => (∀ j, j < d → s 0 j = fL_less (w 0 j) (w 4 1)) ∧ (∀ j, d ≤ j → s 0 j = w 0 j) ∧ s 4 1 = w 4 1) (b := bL_passes_18 w 1 0) 24 (mkL (w 0) (w 1) (w 2) (w 3) (upd (w 4) 8 (w 4 8 + 1))) ?_ ⟨fun j hj => absurd hj (Nat.not_lt_zero _), fun _ _ => rfl, pk_un (by decide)⟩
    · exact h.1
    · intro d s _ hs
      obtain ⟨a1, a2, a3⟩ := hs
      have e : bL_passes_18 w 1 0 d s 0 = upd (s 0) d (fL_less (s 0 d) (s 4 1)) := rfl
      refine ⟨fun j hj => ?_, fun j hj => ?_, a3⟩
      · rw [e]
        by_cases q : j = d
        · subst q
          rw [pk_us, a2 j (Nat.le_refl _), a3]
        · rw [pk_un q]; exact a1 j (by omega)
      · rw [e, pk_un (by omega)]; exact a2 j (by omega)
  exact h
def nW (w : SV) (x6 : Int32) (d79 : Nat) : Int32 := lpF 24 0 (bL_prints_100 w x6 0 0 d79 0 w) 0
theorem nW_e (v w : SV) (x6 y6 y8 y9 : Int32) (d79 : Nat) : lpF 24 0 (bL_prints_100 v x6 y6 y8 d79 y9 w) 0 = nW w x6 d79 := rfl
theorem nW_0 {w : SV} (hI : Lgs w) (hh : ∀ j, j < 24 → (w 0 j).toNatClampNeg = 0) (x6 : Int32) (d79 : Nat) : nW w x6 d79 = 0 := by
  unfold nW
  refine lpF_0 (fun _ s => s = 0) 24 0 ?_ rfl
  rintro d s hd rfl
  obtain ⟨n, h1, h2, h3⟩ := pulse_Lb hI x6 hd
  unfold bL_prints_100
  dsimp only
  rw [if_pos rfl, h3]
  split
  · split
    · rw [if_pos (wait_L hI h2 (hh d hd))]
    · rfl
  · rfl
theorem pr89_n (v w : SV) (x6 y6 y8 y9 : Int32) (d79 : Nat) {y : Int32} (hy : ¬ y = 0) : bL_prints_89 v x6 y6 y8 d79 y9 (y, w) = if nW w x6 d79 = 0 then tL_prints_J188 v x6 y6 y8 d79 y9 (nW w x6 d79) 0 w else tL_prints_J188 v x6 y6 y8 d79 y9 (nW w x6 d79) 1 w := by
  unfold bL_prints_89
  dsimp only
  rw [if_neg hy, nW_e]
  rfl
theorem T_prints_N (v : SV) (x6 y6 y8 : Int32) (d79 : Nat) (y9 : Int32) (n : Nat) : ∀ (w : SV) (y : Int32), Lgs w → (∀ j, j < 24 → (w 0 j).toNatClampNeg ≤ n) → lpT (n + 3) (bL_prints_89 v x6 y6 y8 d79 y9) (y, w) := by
  induction n with
  | zero =>
    intro w y hI hh
    by_cases hy : y = 0
    · exact lpT_no (t := (y, w)) (by unfold bL_prints_89; exact if_pos hy)
    · have e := pr89_n v w x6 y6 y8 y9 d79 hy
      rw [nW_0 hI (fun j hj => Nat.le_zero.mp (hh j hj)), if_pos rfl] at e
      exact lpT_yes e (lpT_no (t := (0, _)) (by unfold bL_prints_89; exact if_pos rfl))
  | succ n ih =>
    intro w y hI hh
    by_cases hy : y = 0
    · exact lpT_no (t := (y, w)) (by unfold bL_prints_89; exact if_pos hy)
    · have e := pr89_n v w x6 y6 y8 y9 d79 hy
      by_cases q : nW w x6 d79 = 0
      · rw [q, if_pos rfl] at e
        exact lpT_yes e (lpT_no (t := (0, _)) (by unfold bL_prints_89; exact if_pos rfl))
      · rw [if_neg q] at e
        unfold tL_prints_J188 at e
        dsimp only at e
        rw [if_neg q] at e
        refine lpT_yes e (ih _ _ (LS_upd (I_L_passes w 1 hI) (by decide)) (fun j hj => ?_))
        show (fL_passes w 1 0 j).toNatClampNeg ≤ n
        rw [passes_1 w j hj]
        have := less_bd hI (w 0 j)
        have := hh j hj
        omega
theorem T_prints_89 (v : SV) (x6 y6 y8 : Int32) (d79 : Nat) (y9 : Int32) {w : SV} (hI : Lgs w) : lpT (mT + 3) (bL_prints_89 v x6 y6 y8 d79 y9) (1, w) := T_prints_N v x6 y6 y8 d79 y9 mT w 1 hI (fun j _ => Nat.le_of_lt (cl_lt _))
theorem dL_prints_0 : decode cL_prints 0 = .ok (.aload 4, 2) := by decide +kernel
theorem dL_prints_2 : decode cL_prints 2 = .ok (.bipush 8, 2) := by decide +kernel
theorem dL_prints_4 : decode cL_prints 4 = .ok (.iaload, 1) := by decide +kernel
theorem dL_prints_5 : decode cL_prints 5 = .ok (.istore 6, 2) := by decide +kernel
theorem dL_prints_7 : decode cL_prints 7 = .ok (.aload 4, 2) := by decide +kernel
theorem dL_prints_9 : decode cL_prints 9 = .ok (.iconst 4, 1) := by decide +kernel
theorem dL_prints_10 : decode cL_prints 10 = .ok (.iaload, 1) := by decide +kernel
theorem dL_prints_11 : decode cL_prints 11 = .ok (.aload 4, 2) := by decide +kernel
theorem dL_prints_13 : decode cL_prints 13 = .ok (.iconst 3, 1) := by decide +kernel
theorem dL_prints_14 : decode cL_prints 14 = .ok (.iaload, 1) := by decide +kernel
theorem dL_prints_15 : decode cL_prints 15 = .ok (.idiv, 1) := by decide +kernel
theorem dL_prints_16 : decode cL_prints 16 = .ok (.ifCond .le 15, 3) := by decide +kernel
theorem dL_prints_19 : decode cL_prints 19 = .ok (.aload 4, 2) := by decide +kernel
theorem dL_prints_21 : decode cL_prints 21 = .ok (.iconst 4, 1) := by decide +kernel
theorem dL_prints_22 : decode cL_prints 22 = .ok (.iaload, 1) := by decide +kernel
theorem dL_prints_23 : decode cL_prints 23 = .ok (.aload 4, 2) := by decide +kernel
theorem dL_prints_25 : decode cL_prints 25 = .ok (.iconst 3, 1) := by decide +kernel
theorem dL_prints_26 : decode cL_prints 26 = .ok (.iaload, 1) := by decide +kernel
theorem dL_prints_27 : decode cL_prints 27 = .ok (.idiv, 1) := by decide +kernel
theorem dL_prints_28 : decode cL_prints 28 = .ok (.goto 4, 3) := by decide +kernel
theorem dL_prints_31 : decode cL_prints 31 = .ok (.iconst 1, 1) := by decide +kernel
theorem dL_prints_32 : decode cL_prints 32 = .ok (.istore 7, 2) := by decide +kernel
theorem dL_prints_34 : decode cL_prints 34 = .ok (.iload 5, 2) := by decide +kernel
theorem dL_prints_36 : decode cL_prints 36 = .ok (.invokestatic 15, 3) := by decide +kernel
theorem dL_prints_39 : decode cL_prints 39 = .ok (.iload 7, 2) := by decide +kernel
theorem dL_prints_41 : decode cL_prints 41 = .ok (.idiv, 1) := by decide +kernel
theorem dL_prints_42 : decode cL_prints 42 = .ok (.iload 5, 2) := by decide +kernel
theorem dL_prints_44 : decode cL_prints 44 = .ok (.invokestatic 15, 3) := by decide +kernel
theorem dL_prints_47 : decode cL_prints 47 = .ok (.iload 7, 2) := by decide +kernel
theorem dL_prints_49 : decode cL_prints 49 = .ok (.irem, 1) := by decide +kernel
theorem dL_prints_50 : decode cL_prints 50 = .ok (.ifCond .le 7, 3) := by decide +kernel
theorem dL_prints_53 : decode cL_prints 53 = .ok (.iconst 1, 1) := by decide +kernel
theorem dL_prints_54 : decode cL_prints 54 = .ok (.goto 4, 3) := by decide +kernel
theorem dL_prints_57 : decode cL_prints 57 = .ok (.iconst 0, 1) := by decide +kernel
theorem dL_prints_58 : decode cL_prints 58 = .ok (.iadd, 1) := by decide +kernel
theorem dL_prints_59 : decode cL_prints 59 = .ok (.istore 8, 2) := by decide +kernel
theorem dL_prints_61 : decode cL_prints 61 = .ok (.iconst 0, 1) := by decide +kernel
theorem dL_prints_62 : decode cL_prints 62 = .ok (.istore 9, 2) := by decide +kernel
theorem dL_prints_64 : decode cL_prints 64 = .ok (.aload 4, 2) := by decide +kernel
theorem dL_prints_66 : decode cL_prints 66 = .ok (.bipush 17, 2) := by decide +kernel
theorem dL_prints_68 : decode cL_prints 68 = .ok (.iconst 0, 1) := by decide +kernel
theorem dL_prints_69 : decode cL_prints 69 = .ok (.iastore, 1) := by decide +kernel
theorem dL_prints_70 : decode cL_prints 70 = .ok (.aload 4, 2) := by decide +kernel
theorem dL_prints_72 : decode cL_prints 72 = .ok (.bipush 20, 2) := by decide +kernel
theorem dL_prints_74 : decode cL_prints 74 = .ok (.iconst 0, 1) := by decide +kernel
theorem dL_prints_75 : decode cL_prints 75 = .ok (.iastore, 1) := by decide +kernel
theorem dL_prints_76 : decode cL_prints 76 = .ok (.iconst 0, 1) := by decide +kernel
theorem dL_prints_77 : decode cL_prints 77 = .ok (.istore 10, 2) := by decide +kernel
theorem dL_prints_79 : decode cL_prints 79 = .ok (.iload 10, 2) := by decide +kernel
theorem dL_prints_81 : decode cL_prints 81 = .ok (.iload 8, 2) := by decide +kernel
theorem dL_prints_83 : decode cL_prints 83 = .ok (.if_icmp .ge 318, 3) := by decide +kernel
theorem dL_prints_86 : decode cL_prints 86 = .ok (.iconst 1, 1) := by decide +kernel
theorem dL_prints_87 : decode cL_prints 87 = .ok (.istore 11, 2) := by decide +kernel
theorem dL_prints_89 : decode cL_prints 89 = .ok (.iload 11, 2) := by decide +kernel
theorem dL_prints_91 : decode cL_prints 91 = .ok (.ifCond .eq 121, 3) := by decide +kernel
theorem dL_prints_94 : decode cL_prints 94 = .ok (.iconst 0, 1) := by decide +kernel
theorem dL_prints_95 : decode cL_prints 95 = .ok (.istore 11, 2) := by decide +kernel
theorem dL_prints_97 : decode cL_prints 97 = .ok (.iconst 0, 1) := by decide +kernel
theorem dL_prints_98 : decode cL_prints 98 = .ok (.istore 12, 2) := by decide +kernel
theorem dL_prints_100 : decode cL_prints 100 = .ok (.iload 12, 2) := by decide +kernel
theorem dL_prints_102 : decode cL_prints 102 = .ok (.bipush 24, 2) := by decide +kernel
theorem dL_prints_104 : decode cL_prints 104 = .ok (.if_icmp .ge 71, 3) := by decide +kernel
theorem dL_prints_107 : decode cL_prints 107 = .ok (.iload 11, 2) := by decide +kernel
theorem dL_prints_109 : decode cL_prints 109 = .ok (.ifCond .ne 53, 3) := by decide +kernel
theorem dL_prints_112 : decode cL_prints 112 = .ok (.iload 5, 2) := by decide +kernel
theorem dL_prints_114 : decode cL_prints 114 = .ok (.iload 12, 2) := by decide +kernel
theorem dL_prints_116 : decode cL_prints 116 = .ok (.ishr, 1) := by decide +kernel
theorem dL_prints_117 : decode cL_prints 117 = .ok (.iconst 1, 1) := by decide +kernel
theorem dL_prints_118 : decode cL_prints 118 = .ok (.iand, 1) := by decide +kernel
theorem dL_prints_119 : decode cL_prints 119 = .ok (.iconst 1, 1) := by decide +kernel
theorem dL_prints_120 : decode cL_prints 120 = .ok (.if_icmp .ne 46, 3) := by decide +kernel
theorem dL_prints_123 : decode cL_prints 123 = .ok (.aload 4, 2) := by decide +kernel
theorem dL_prints_125 : decode cL_prints 125 = .ok (.iload 5, 2) := by decide +kernel
theorem dL_prints_127 : decode cL_prints 127 = .ok (.iload 12, 2) := by decide +kernel
theorem dL_prints_129 : decode cL_prints 129 = .ok (.invokestatic 19, 3) := by decide +kernel
theorem dL_prints_132 : decode cL_prints 132 = .ok (.iload 10, 2) := by decide +kernel
theorem dL_prints_134 : decode cL_prints 134 = .ok (.if_icmp .ne 32, 3) := by decide +kernel
theorem dL_prints_137 : decode cL_prints 137 = .ok (.aload_n 0, 1) := by decide +kernel
theorem dL_prints_138 : decode cL_prints 138 = .ok (.iload 12, 2) := by decide +kernel
theorem dL_prints_140 : decode cL_prints 140 = .ok (.iaload, 1) := by decide +kernel
theorem dL_prints_141 : decode cL_prints 141 = .ok (.aload 4, 2) := by decide +kernel
theorem dL_prints_143 : decode cL_prints 143 = .ok (.iload 5, 2) := by decide +kernel
theorem dL_prints_145 : decode cL_prints 145 = .ok (.iload 12, 2) := by decide +kernel
theorem dL_prints_147 : decode cL_prints 147 = .ok (.aload 4, 2) := by decide +kernel
theorem dL_prints_149 : decode cL_prints 149 = .ok (.iconst 0, 1) := by decide +kernel
theorem dL_prints_150 : decode cL_prints 150 = .ok (.iaload, 1) := by decide +kernel
theorem dL_prints_151 : decode cL_prints 151 = .ok (.invokestatic 23, 3) := by decide +kernel
theorem dL_prints_154 : decode cL_prints 154 = .ok (.iadd, 1) := by decide +kernel
theorem dL_prints_155 : decode cL_prints 155 = .ok (.aload 4, 2) := by decide +kernel
theorem dL_prints_157 : decode cL_prints 157 = .ok (.iconst 2, 1) := by decide +kernel
theorem dL_prints_158 : decode cL_prints 158 = .ok (.iaload, 1) := by decide +kernel
theorem dL_prints_159 : decode cL_prints 159 = .ok (.if_icmp .le 7, 3) := by decide +kernel
theorem dL_prints_162 : decode cL_prints 162 = .ok (.iconst 1, 1) := by decide +kernel
theorem dL_prints_163 : decode cL_prints 163 = .ok (.goto 4, 3) := by decide +kernel
theorem dL_prints_166 : decode cL_prints 166 = .ok (.iconst 0, 1) := by decide +kernel
theorem dL_prints_167 : decode cL_prints 167 = .ok (.istore 11, 2) := by decide +kernel
theorem dL_prints_169 : decode cL_prints 169 = .ok (.iinc 12 1, 3) := by decide +kernel
theorem dL_prints_172 : decode cL_prints 172 = .ok (.goto (-72), 3) := by decide +kernel
theorem dL_prints_175 : decode cL_prints 175 = .ok (.aload_n 0, 1) := by decide +kernel
theorem dL_prints_176 : decode cL_prints 176 = .ok (.aload 4, 2) := by decide +kernel
theorem dL_prints_178 : decode cL_prints 178 = .ok (.iload 11, 2) := by decide +kernel
theorem dL_prints_180 : decode cL_prints 180 = .ok (.ifCond .eq 7, 3) := by decide +kernel
theorem dL_prints_183 : decode cL_prints 183 = .ok (.iconst 1, 1) := by decide +kernel
theorem dL_prints_184 : decode cL_prints 184 = .ok (.goto 4, 3) := by decide +kernel
theorem dL_prints_187 : decode cL_prints 187 = .ok (.iconst 0, 1) := by decide +kernel
theorem dL_prints_188 : decode cL_prints 188 = .ok (.invokestatic 27, 3) := by decide +kernel
theorem dL_prints_191 : decode cL_prints 191 = .ok (.aload 4, 2) := by decide +kernel
theorem dL_prints_193 : decode cL_prints 193 = .ok (.bipush 17, 2) := by decide +kernel
theorem dL_prints_195 : decode cL_prints 195 = .ok (.dup2, 1) := by decide +kernel
theorem dL_prints_196 : decode cL_prints 196 = .ok (.iaload, 1) := by decide +kernel
theorem dL_prints_197 : decode cL_prints 197 = .ok (.iload 11, 2) := by decide +kernel
theorem dL_prints_199 : decode cL_prints 199 = .ok (.ifCond .eq 7, 3) := by decide +kernel
theorem dL_prints_202 : decode cL_prints 202 = .ok (.iconst 1, 1) := by decide +kernel
theorem dL_prints_203 : decode cL_prints 203 = .ok (.goto 4, 3) := by decide +kernel
theorem dL_prints_206 : decode cL_prints 206 = .ok (.iconst 0, 1) := by decide +kernel
theorem dL_prints_207 : decode cL_prints 207 = .ok (.iadd, 1) := by decide +kernel
theorem dL_prints_208 : decode cL_prints 208 = .ok (.iastore, 1) := by decide +kernel
theorem dL_prints_209 : decode cL_prints 209 = .ok (.goto (-120), 3) := by decide +kernel
theorem dL_prints_212 : decode cL_prints 212 = .ok (.iconst 0, 1) := by decide +kernel
theorem dL_prints_213 : decode cL_prints 213 = .ok (.istore 12, 2) := by decide +kernel
theorem dL_prints_215 : decode cL_prints 215 = .ok (.iconst 0, 1) := by decide +kernel
theorem dL_prints_216 : decode cL_prints 216 = .ok (.istore 13, 2) := by decide +kernel
theorem dL_prints_218 : decode cL_prints 218 = .ok (.iload 13, 2) := by decide +kernel
theorem dL_prints_220 : decode cL_prints 220 = .ok (.bipush 24, 2) := by decide +kernel
theorem dL_prints_222 : decode cL_prints 222 = .ok (.if_icmp .ge 160, 3) := by decide +kernel
theorem dL_prints_225 : decode cL_prints 225 = .ok (.iload 5, 2) := by decide +kernel
theorem dL_prints_227 : decode cL_prints 227 = .ok (.iload 13, 2) := by decide +kernel
theorem dL_prints_229 : decode cL_prints 229 = .ok (.ishr, 1) := by decide +kernel
theorem dL_prints_230 : decode cL_prints 230 = .ok (.iconst 1, 1) := by decide +kernel
theorem dL_prints_231 : decode cL_prints 231 = .ok (.iand, 1) := by decide +kernel
theorem dL_prints_232 : decode cL_prints 232 = .ok (.iconst 1, 1) := by decide +kernel
theorem dL_prints_233 : decode cL_prints 233 = .ok (.if_icmp .ne 143, 3) := by decide +kernel
theorem dL_prints_236 : decode cL_prints 236 = .ok (.aload 4, 2) := by decide +kernel
theorem dL_prints_238 : decode cL_prints 238 = .ok (.iload 5, 2) := by decide +kernel
theorem dL_prints_240 : decode cL_prints 240 = .ok (.iload 13, 2) := by decide +kernel
theorem dL_prints_242 : decode cL_prints 242 = .ok (.invokestatic 19, 3) := by decide +kernel
theorem dL_prints_245 : decode cL_prints 245 = .ok (.iload 10, 2) := by decide +kernel
theorem dL_prints_247 : decode cL_prints 247 = .ok (.if_icmp .ne 129, 3) := by decide +kernel
theorem dL_prints_250 : decode cL_prints 250 = .ok (.aload 4, 2) := by decide +kernel
theorem dL_prints_252 : decode cL_prints 252 = .ok (.iload 5, 2) := by decide +kernel
theorem dL_prints_254 : decode cL_prints 254 = .ok (.iload 13, 2) := by decide +kernel
theorem dL_prints_256 : decode cL_prints 256 = .ok (.aload 4, 2) := by decide +kernel
theorem dL_prints_258 : decode cL_prints 258 = .ok (.iconst 0, 1) := by decide +kernel
theorem dL_prints_259 : decode cL_prints 259 = .ok (.iaload, 1) := by decide +kernel
theorem dL_prints_260 : decode cL_prints 260 = .ok (.invokestatic 23, 3) := by decide +kernel
theorem dL_prints_263 : decode cL_prints 263 = .ok (.istore 14, 2) := by decide +kernel
theorem dL_prints_265 : decode cL_prints 265 = .ok (.iload 14, 2) := by decide +kernel
theorem dL_prints_267 : decode cL_prints 267 = .ok (.iload 12, 2) := by decide +kernel
theorem dL_prints_269 : decode cL_prints 269 = .ok (.if_icmp .le 8, 3) := by decide +kernel
theorem dL_prints_272 : decode cL_prints 272 = .ok (.iload 14, 2) := by decide +kernel
theorem dL_prints_274 : decode cL_prints 274 = .ok (.goto 5, 3) := by decide +kernel
theorem dL_prints_277 : decode cL_prints 277 = .ok (.iload 12, 2) := by decide +kernel
theorem dL_prints_279 : decode cL_prints 279 = .ok (.istore 12, 2) := by decide +kernel
theorem dL_prints_281 : decode cL_prints 281 = .ok (.aload_n 0, 1) := by decide +kernel
theorem dL_prints_282 : decode cL_prints 282 = .ok (.iload 13, 2) := by decide +kernel
theorem dL_prints_284 : decode cL_prints 284 = .ok (.dup2, 1) := by decide +kernel
theorem dL_prints_285 : decode cL_prints 285 = .ok (.iaload, 1) := by decide +kernel
theorem dL_prints_286 : decode cL_prints 286 = .ok (.iload 14, 2) := by decide +kernel
theorem dL_prints_288 : decode cL_prints 288 = .ok (.iadd, 1) := by decide +kernel
theorem dL_prints_289 : decode cL_prints 289 = .ok (.iastore, 1) := by decide +kernel
theorem dL_prints_290 : decode cL_prints 290 = .ok (.aload 4, 2) := by decide +kernel
theorem dL_prints_292 : decode cL_prints 292 = .ok (.bipush 20, 2) := by decide +kernel
theorem dL_prints_294 : decode cL_prints 294 = .ok (.aload_n 0, 1) := by decide +kernel
theorem dL_prints_295 : decode cL_prints 295 = .ok (.iload 13, 2) := by decide +kernel
theorem dL_prints_297 : decode cL_prints 297 = .ok (.iaload, 1) := by decide +kernel
theorem dL_prints_298 : decode cL_prints 298 = .ok (.aload 4, 2) := by decide +kernel
theorem dL_prints_300 : decode cL_prints 300 = .ok (.bipush 20, 2) := by decide +kernel
theorem dL_prints_302 : decode cL_prints 302 = .ok (.iaload, 1) := by decide +kernel
theorem dL_prints_303 : decode cL_prints 303 = .ok (.if_icmp .le 10, 3) := by decide +kernel
theorem dL_prints_306 : decode cL_prints 306 = .ok (.aload_n 0, 1) := by decide +kernel
theorem dL_prints_307 : decode cL_prints 307 = .ok (.iload 13, 2) := by decide +kernel
theorem dL_prints_309 : decode cL_prints 309 = .ok (.iaload, 1) := by decide +kernel
theorem dL_prints_310 : decode cL_prints 310 = .ok (.goto 8, 3) := by decide +kernel
theorem dL_prints_313 : decode cL_prints 313 = .ok (.aload 4, 2) := by decide +kernel
theorem dL_prints_315 : decode cL_prints 315 = .ok (.bipush 20, 2) := by decide +kernel
theorem dL_prints_317 : decode cL_prints 317 = .ok (.iaload, 1) := by decide +kernel
theorem dL_prints_318 : decode cL_prints 318 = .ok (.iastore, 1) := by decide +kernel
theorem dL_prints_319 : decode cL_prints 319 = .ok (.iload 9, 2) := by decide +kernel
theorem dL_prints_321 : decode cL_prints 321 = .ok (.aload_n 0, 1) := by decide +kernel
theorem dL_prints_322 : decode cL_prints 322 = .ok (.iload 13, 2) := by decide +kernel
theorem dL_prints_324 : decode cL_prints 324 = .ok (.iaload, 1) := by decide +kernel
theorem dL_prints_325 : decode cL_prints 325 = .ok (.aload 4, 2) := by decide +kernel
theorem dL_prints_327 : decode cL_prints 327 = .ok (.invokestatic 31, 3) := by decide +kernel
theorem dL_prints_330 : decode cL_prints 330 = .ok (.if_icmp .ge 7, 3) := by decide +kernel
theorem dL_prints_333 : decode cL_prints 333 = .ok (.iconst 0, 1) := by decide +kernel
theorem dL_prints_334 : decode cL_prints 334 = .ok (.goto 7, 3) := by decide +kernel
theorem dL_prints_337 : decode cL_prints 337 = .ok (.iconst 1, 1) := by decide +kernel
theorem dL_prints_338 : decode cL_prints 338 = .ok (.iload 13, 2) := by decide +kernel
theorem dL_prints_340 : decode cL_prints 340 = .ok (.ishl, 1) := by decide +kernel
theorem dL_prints_341 : decode cL_prints 341 = .ok (.ior, 1) := by decide +kernel
theorem dL_prints_342 : decode cL_prints 342 = .ok (.istore 9, 2) := by decide +kernel
theorem dL_prints_344 : decode cL_prints 344 = .ok (.aload_n 1, 1) := by decide +kernel
theorem dL_prints_345 : decode cL_prints 345 = .ok (.iload 13, 2) := by decide +kernel
theorem dL_prints_347 : decode cL_prints 347 = .ok (.dup2, 1) := by decide +kernel
theorem dL_prints_348 : decode cL_prints 348 = .ok (.iaload, 1) := by decide +kernel
theorem dL_prints_349 : decode cL_prints 349 = .ok (.iconst 1, 1) := by decide +kernel
theorem dL_prints_350 : decode cL_prints 350 = .ok (.iadd, 1) := by decide +kernel
theorem dL_prints_351 : decode cL_prints 351 = .ok (.iastore, 1) := by decide +kernel
theorem dL_prints_352 : decode cL_prints 352 = .ok (.aload_n 2, 1) := by decide +kernel
theorem dL_prints_353 : decode cL_prints 353 = .ok (.iload 13, 2) := by decide +kernel
theorem dL_prints_355 : decode cL_prints 355 = .ok (.dup2, 1) := by decide +kernel
theorem dL_prints_356 : decode cL_prints 356 = .ok (.iaload, 1) := by decide +kernel
theorem dL_prints_357 : decode cL_prints 357 = .ok (.aload_n 0, 1) := by decide +kernel
theorem dL_prints_358 : decode cL_prints 358 = .ok (.iload 13, 2) := by decide +kernel
theorem dL_prints_360 : decode cL_prints 360 = .ok (.iaload, 1) := by decide +kernel
theorem dL_prints_361 : decode cL_prints 361 = .ok (.aload 4, 2) := by decide +kernel
theorem dL_prints_363 : decode cL_prints 363 = .ok (.invokestatic 31, 3) := by decide +kernel
theorem dL_prints_366 : decode cL_prints 366 = .ok (.if_icmp .ge 7, 3) := by decide +kernel
theorem dL_prints_369 : decode cL_prints 369 = .ok (.iconst 1, 1) := by decide +kernel
theorem dL_prints_370 : decode cL_prints 370 = .ok (.goto 4, 3) := by decide +kernel
theorem dL_prints_373 : decode cL_prints 373 = .ok (.iconst 0, 1) := by decide +kernel
theorem dL_prints_374 : decode cL_prints 374 = .ok (.iadd, 1) := by decide +kernel
theorem dL_prints_375 : decode cL_prints 375 = .ok (.iastore, 1) := by decide +kernel
theorem dL_prints_376 : decode cL_prints 376 = .ok (.iinc 13 1, 3) := by decide +kernel
theorem dL_prints_379 : decode cL_prints 379 = .ok (.goto (-161), 3) := by decide +kernel
theorem dL_prints_382 : decode cL_prints 382 = .ok (.aload_n 0, 1) := by decide +kernel
theorem dL_prints_383 : decode cL_prints 383 = .ok (.aload 4, 2) := by decide +kernel
theorem dL_prints_385 : decode cL_prints 385 = .ok (.iload 12, 2) := by decide +kernel
theorem dL_prints_387 : decode cL_prints 387 = .ok (.bipush 10, 2) := by decide +kernel
theorem dL_prints_389 : decode cL_prints 389 = .ok (.idiv, 1) := by decide +kernel
theorem dL_prints_390 : decode cL_prints 390 = .ok (.iconst 1, 1) := by decide +kernel
theorem dL_prints_391 : decode cL_prints 391 = .ok (.iadd, 1) := by decide +kernel
theorem dL_prints_392 : decode cL_prints 392 = .ok (.invokestatic 27, 3) := by decide +kernel
theorem dL_prints_395 : decode cL_prints 395 = .ok (.iinc 10 1, 3) := by decide +kernel
theorem dL_prints_398 : decode cL_prints 398 = .ok (.goto (-319), 3) := by decide +kernel
theorem dL_prints_401 : decode cL_prints 401 = .ok (.aload_n 0, 1) := by decide +kernel
theorem dL_prints_402 : decode cL_prints 402 = .ok (.aload 4, 2) := by decide +kernel
theorem dL_prints_404 : decode cL_prints 404 = .ok (.aload 4, 2) := by decide +kernel
theorem dL_prints_406 : decode cL_prints 406 = .ok (.bipush 6, 2) := by decide +kernel
theorem dL_prints_408 : decode cL_prints 408 = .ok (.iaload, 1) := by decide +kernel
theorem dL_prints_409 : decode cL_prints 409 = .ok (.invokestatic 27, 3) := by decide +kernel
theorem dL_prints_412 : decode cL_prints 412 = .ok (.bipush 35, 2) := by decide +kernel
theorem dL_prints_414 : decode cL_prints 414 = .ok (.istore 10, 2) := by decide +kernel
theorem dL_prints_416 : decode cL_prints 416 = .ok (.iload 10, 2) := by decide +kernel
theorem dL_prints_418 : decode cL_prints 418 = .ok (.iconst 2, 1) := by decide +kernel
theorem dL_prints_419 : decode cL_prints 419 = .ok (.if_icmp .le 19, 3) := by decide +kernel
theorem dL_prints_422 : decode cL_prints 422 = .ok (.aload_n 3, 1) := by decide +kernel
theorem dL_prints_423 : decode cL_prints 423 = .ok (.iload 10, 2) := by decide +kernel
theorem dL_prints_425 : decode cL_prints 425 = .ok (.aload_n 3, 1) := by decide +kernel
theorem dL_prints_426 : decode cL_prints 426 = .ok (.iload 10, 2) := by decide +kernel
theorem dL_prints_428 : decode cL_prints 428 = .ok (.iconst 3, 1) := by decide +kernel
theorem dL_prints_429 : decode cL_prints 429 = .ok (.isub, 1) := by decide +kernel
theorem dL_prints_430 : decode cL_prints 430 = .ok (.iaload, 1) := by decide +kernel
theorem dL_prints_431 : decode cL_prints 431 = .ok (.iastore, 1) := by decide +kernel
theorem dL_prints_432 : decode cL_prints 432 = .ok (.iinc 10 (-1), 3) := by decide +kernel
theorem dL_prints_435 : decode cL_prints 435 = .ok (.goto (-19), 3) := by decide +kernel
theorem dL_prints_438 : decode cL_prints 438 = .ok (.aload_n 3, 1) := by decide +kernel
theorem dL_prints_439 : decode cL_prints 439 = .ok (.iconst 0, 1) := by decide +kernel
theorem dL_prints_440 : decode cL_prints 440 = .ok (.iload 9, 2) := by decide +kernel
theorem dL_prints_442 : decode cL_prints 442 = .ok (.iastore, 1) := by decide +kernel
theorem dL_prints_443 : decode cL_prints 443 = .ok (.aload_n 3, 1) := by decide +kernel
theorem dL_prints_444 : decode cL_prints 444 = .ok (.iconst 1, 1) := by decide +kernel
theorem dL_prints_445 : decode cL_prints 445 = .ok (.iload 5, 2) := by decide +kernel
theorem dL_prints_447 : decode cL_prints 447 = .ok (.iload 9, 2) := by decide +kernel
theorem dL_prints_449 : decode cL_prints 449 = .ok (.ixor, 1) := by decide +kernel
theorem dL_prints_450 : decode cL_prints 450 = .ok (.iastore, 1) := by decide +kernel
theorem dL_prints_451 : decode cL_prints 451 = .ok (.aload_n 3, 1) := by decide +kernel
theorem dL_prints_452 : decode cL_prints 452 = .ok (.iconst 2, 1) := by decide +kernel
theorem dL_prints_453 : decode cL_prints 453 = .ok (.iload 8, 2) := by decide +kernel
theorem dL_prints_455 : decode cL_prints 455 = .ok (.iastore, 1) := by decide +kernel
theorem dL_prints_456 : decode cL_prints 456 = .ok (.aload 4, 2) := by decide +kernel
theorem dL_prints_458 : decode cL_prints 458 = .ok (.bipush 15, 2) := by decide +kernel
theorem dL_prints_460 : decode cL_prints 460 = .ok (.dup2, 1) := by decide +kernel
theorem dL_prints_461 : decode cL_prints 461 = .ok (.iaload, 1) := by decide +kernel
theorem dL_prints_462 : decode cL_prints 462 = .ok (.aload 4, 2) := by decide +kernel
theorem dL_prints_464 : decode cL_prints 464 = .ok (.bipush 15, 2) := by decide +kernel
theorem dL_prints_466 : decode cL_prints 466 = .ok (.iaload, 1) := by decide +kernel
theorem dL_prints_467 : decode cL_prints 467 = .ok (.bipush 12, 2) := by decide +kernel
theorem dL_prints_469 : decode cL_prints 469 = .ok (.if_icmp .ge 7, 3) := by decide +kernel
theorem dL_prints_472 : decode cL_prints 472 = .ok (.iconst 1, 1) := by decide +kernel
theorem dL_prints_473 : decode cL_prints 473 = .ok (.goto 4, 3) := by decide +kernel
theorem dL_prints_476 : decode cL_prints 476 = .ok (.iconst 0, 1) := by decide +kernel
theorem dL_prints_477 : decode cL_prints 477 = .ok (.iadd, 1) := by decide +kernel
theorem dL_prints_478 : decode cL_prints 478 = .ok (.iastore, 1) := by decide +kernel
theorem dL_prints_479 : decode cL_prints 479 = .ok (.aload 4, 2) := by decide +kernel
theorem dL_prints_481 : decode cL_prints 481 = .ok (.bipush 14, 2) := by decide +kernel
theorem dL_prints_483 : decode cL_prints 483 = .ok (.aload 4, 2) := by decide +kernel
theorem dL_prints_485 : decode cL_prints 485 = .ok (.bipush 13, 2) := by decide +kernel
theorem dL_prints_487 : decode cL_prints 487 = .ok (.iaload, 1) := by decide +kernel
theorem dL_prints_488 : decode cL_prints 488 = .ok (.iastore, 1) := by decide +kernel
theorem dL_prints_489 : decode cL_prints 489 = .ok (.aload 4, 2) := by decide +kernel
theorem dL_prints_491 : decode cL_prints 491 = .ok (.bipush 13, 2) := by decide +kernel
theorem dL_prints_493 : decode cL_prints 493 = .ok (.iload 5, 2) := by decide +kernel
theorem dL_prints_495 : decode cL_prints 495 = .ok (.iastore, 1) := by decide +kernel
theorem dL_prints_496 : decode cL_prints 496 = .ok (.aload 4, 2) := by decide +kernel
theorem dL_prints_498 : decode cL_prints 498 = .ok (.bipush 9, 2) := by decide +kernel
theorem dL_prints_500 : decode cL_prints 500 = .ok (.dup2, 1) := by decide +kernel
theorem dL_prints_501 : decode cL_prints 501 = .ok (.iaload, 1) := by decide +kernel
theorem dL_prints_502 : decode cL_prints 502 = .ok (.iconst 1, 1) := by decide +kernel
theorem dL_prints_503 : decode cL_prints 503 = .ok (.iadd, 1) := by decide +kernel
theorem dL_prints_504 : decode cL_prints 504 = .ok (.iastore, 1) := by decide +kernel
theorem dL_prints_505 : decode cL_prints 505 = .ok (.aload 4, 2) := by decide +kernel
theorem dL_prints_507 : decode cL_prints 507 = .ok (.bipush 10, 2) := by decide +kernel
theorem dL_prints_509 : decode cL_prints 509 = .ok (.dup2, 1) := by decide +kernel
theorem dL_prints_510 : decode cL_prints 510 = .ok (.iaload, 1) := by decide +kernel
theorem dL_prints_511 : decode cL_prints 511 = .ok (.iload 8, 2) := by decide +kernel
theorem dL_prints_513 : decode cL_prints 513 = .ok (.iadd, 1) := by decide +kernel
theorem dL_prints_514 : decode cL_prints 514 = .ok (.iastore, 1) := by decide +kernel
theorem dL_prints_515 : decode cL_prints 515 = .ok (.aload 4, 2) := by decide +kernel
theorem dL_prints_517 : decode cL_prints 517 = .ok (.bipush 11, 2) := by decide +kernel
theorem dL_prints_519 : decode cL_prints 519 = .ok (.dup2, 1) := by decide +kernel
theorem dL_prints_520 : decode cL_prints 520 = .ok (.iaload, 1) := by decide +kernel
theorem dL_prints_521 : decode cL_prints 521 = .ok (.aload 4, 2) := by decide +kernel
theorem dL_prints_523 : decode cL_prints 523 = .ok (.bipush 17, 2) := by decide +kernel
theorem dL_prints_525 : decode cL_prints 525 = .ok (.iaload, 1) := by decide +kernel
theorem dL_prints_526 : decode cL_prints 526 = .ok (.iadd, 1) := by decide +kernel
theorem dL_prints_527 : decode cL_prints 527 = .ok (.iastore, 1) := by decide +kernel
theorem dL_prints_528 : decode cL_prints 528 = .ok (.aload 4, 2) := by decide +kernel
theorem dL_prints_530 : decode cL_prints 530 = .ok (.bipush 12, 2) := by decide +kernel
theorem dL_prints_532 : decode cL_prints 532 = .ok (.aload 4, 2) := by decide +kernel
theorem dL_prints_534 : decode cL_prints 534 = .ok (.bipush 20, 2) := by decide +kernel
theorem dL_prints_536 : decode cL_prints 536 = .ok (.iaload, 1) := by decide +kernel
theorem dL_prints_537 : decode cL_prints 537 = .ok (.aload 4, 2) := by decide +kernel
theorem dL_prints_539 : decode cL_prints 539 = .ok (.bipush 12, 2) := by decide +kernel
theorem dL_prints_541 : decode cL_prints 541 = .ok (.iaload, 1) := by decide +kernel
theorem dL_prints_542 : decode cL_prints 542 = .ok (.if_icmp .le 11, 3) := by decide +kernel
theorem dL_prints_545 : decode cL_prints 545 = .ok (.aload 4, 2) := by decide +kernel
theorem dL_prints_547 : decode cL_prints 547 = .ok (.bipush 20, 2) := by decide +kernel
theorem dL_prints_549 : decode cL_prints 549 = .ok (.iaload, 1) := by decide +kernel
theorem dL_prints_550 : decode cL_prints 550 = .ok (.goto 8, 3) := by decide +kernel
theorem dL_prints_553 : decode cL_prints 553 = .ok (.aload 4, 2) := by decide +kernel
theorem dL_prints_555 : decode cL_prints 555 = .ok (.bipush 12, 2) := by decide +kernel
theorem dL_prints_557 : decode cL_prints 557 = .ok (.iaload, 1) := by decide +kernel
theorem dL_prints_558 : decode cL_prints 558 = .ok (.iastore, 1) := by decide +kernel
theorem dL_prints_559 : decode cL_prints 559 = .ok (.aload 4, 2) := by decide +kernel
theorem dL_prints_561 : decode cL_prints 561 = .ok (.bipush 16, 2) := by decide +kernel
theorem dL_prints_563 : decode cL_prints 563 = .ok (.aload 4, 2) := by decide +kernel
theorem dL_prints_565 : decode cL_prints 565 = .ok (.bipush 8, 2) := by decide +kernel
theorem dL_prints_567 : decode cL_prints 567 = .ok (.iaload, 1) := by decide +kernel
theorem dL_prints_568 : decode cL_prints 568 = .ok (.iload 6, 2) := by decide +kernel
theorem dL_prints_570 : decode cL_prints 570 = .ok (.isub, 1) := by decide +kernel
theorem dL_prints_571 : decode cL_prints 571 = .ok (.iastore, 1) := by decide +kernel
theorem dL_prints_572 : decode cL_prints 572 = .ok (.aload 4, 2) := by decide +kernel
theorem dL_prints_574 : decode cL_prints 574 = .ok (.bipush 18, 2) := by decide +kernel
theorem dL_prints_576 : decode cL_prints 576 = .ok (.iload 8, 2) := by decide +kernel
theorem dL_prints_578 : decode cL_prints 578 = .ok (.iastore, 1) := by decide +kernel
theorem dL_prints_579 : decode cL_prints 579 = .ok (.aload 4, 2) := by decide +kernel
theorem dL_prints_581 : decode cL_prints 581 = .ok (.bipush 19, 2) := by decide +kernel
theorem dL_prints_583 : decode cL_prints 583 = .ok (.aload_n 3, 1) := by decide +kernel
theorem dL_prints_584 : decode cL_prints 584 = .ok (.iconst 1, 1) := by decide +kernel
theorem dL_prints_585 : decode cL_prints 585 = .ok (.iaload, 1) := by decide +kernel
theorem dL_prints_586 : decode cL_prints 586 = .ok (.invokestatic 15, 3) := by decide +kernel
theorem dL_prints_589 : decode cL_prints 589 = .ok (.iastore, 1) := by decide +kernel
theorem dL_prints_590 : decode cL_prints 590 = .ok (.return_, 1) := by decide +kernel
set_option maxHeartbeats 4000000 in
set_option maxRecDepth 100000 in
theorem c_L_prints (l : Launch) (G : GT) (q : Nat → Nat) (v : SV) (x6 : Int32) (hq : lwD G q) (hI : Lgs v) : Met l yL_prints (Cond.code yL_prints cL_prints 15 none :: bigW) ({ frames := 2, cells := 0, slots := 0, locals := 47 }) (BP G [.ref (q 0), .ref (q 1), .ref (q 2), .ref (q 3), .ref (q 4), .int x6] (fun U H => PW G (lwW G q v) H)) (QE (none) (fun H => PW G (lwW G q (fL_prints v x6)) H) (lwA q)) 0 0 (lwA q) := by
  refine met_of (by decide) (Nat.le_of_ble_eq_true rfl) ?_
  intro p e s m below meth c ls hC hKN hB0 hl
  have hP := hB0
  have hl : lv_has ls 15 [(0, .ref (q 0)), (1, .ref (q 1)), (2, .ref (q 2)), (3, .ref (q 3)), (4, .ref (q 4)), (5, .int x6)] := hl
  have hS : va_S (lwA q) s.heap s.heap [] := va_S.rf
  have hAL : ∀ a, (lwA q) a → gL G ≤ a := lwD_low hq
  have hg : fL_prints v x6 = fL_prints v x6 := rfl
  refine lv_aload hC.1 hC.2.1 dL_prints_0 (lv_at hl 4 rfl) ?_
  refine lv_bipush (v := 8) hC.1 hC.2.1 dL_prints_2 (by decide +kernel) ?_
  refine iald_k hC hKN hP 4 rfl (n := 21) (f := (v 4)) 8 (rfl) (by omega) (by first | decide | omega) dL_prints_4 ?_
  refine lv_istore (lv' := [(6, .int ((v 4) 8)), (0, .ref (q 0)), (1, .ref (q 1)), (2, .ref (q 2)), (3, .ref (q 3)), (4, .ref (q 4)), (5, .int x6)]) hC.1 hC.2.1 dL_prints_5 hl (by decide) rfl (fun ls hl => ?_)
  refine lv_aload hC.1 hC.2.1 dL_prints_7 (lv_at hl 5 rfl) ?_
  refine lv_iconst (v := 4) hC.1 hC.2.1 dL_prints_9 (by decide) ?_
  refine iald_k hC hKN hP 4 rfl (n := 21) (f := (v 4)) 4 (rfl) (by omega) (by first | decide | omega) dL_prints_10 ?_
  refine lv_aload hC.1 hC.2.1 dL_prints_11 (lv_at hl 5 rfl) ?_
  refine lv_iconst (v := 3) hC.1 hC.2.1 dL_prints_13 (by decide) ?_
  refine iald_k hC hKN hP 4 rfl (n := 21) (f := (v 4)) 3 (rfl) (by omega) (by first | decide | omega) dL_prints_14 ?_
  refine lv_idiv hC.1 hC.2.1 dL_prints_15 (LS_3 hI) ?_
  have J32 : ∀ (y6_32 : Int32) (z0_32 : Int32) (v_32 : SV), fL_prints v x6 = tL_prints_J32 v x6 y6_32 z0_32 v_32 → Lgs v_32 ∧ mny z0_32 → ∀ (H : Heap) (locs : List Loc), PW G (lwW G q v_32) H → va_S (lwA q) s.heap H locs → ∀ (ls : Array Slot), lv_has ls 15 [(0, .ref (q 0)), (1, .ref (q 1)), (2, .ref (q 2)), (3, .ref (q 3)), (4, .ref (q 4)), (5, .int x6), (6, .int y6_32)] → W p l e ({ frames := 2, cells := 0, slots := 0, locals := 47 }) s m ([.ref (q 0), .ref (q 1), .ref (q 2), .ref (q 3), .ref (q 4), .int x6] : List Value).toArray below meth c H locs 0 0 (MQ below (QE (none) (fun H => PW G (lwW G q (fL_prints v x6)) H) (lwA q)) ([.ref (q 0), .ref (q 1), .ref (q 2), .ref (q 3), .ref (q 4), .int x6] : List Value).toArray s 0 0 (lwA q)) (F0 m 32 ls [.int z0_32]) := by
    intro y6_32 z0_32 v_32 hg hI H locs hP hS ls hl
    refine lv_istore (lv' := [(7, .int z0_32), (0, .ref (q 0)), (1, .ref (q 1)), (2, .ref (q 2)), (3, .ref (q 3)), (4, .ref (q 4)), (5, .int x6), (6, .int y6_32)]) hC.1 hC.2.1 dL_prints_32 hl (by decide) rfl (fun ls hl => ?_)
    refine lv_iload hC.1 hC.2.1 dL_prints_34 (lv_at hl 6 rfl) ?_
    refine runP (rS (B := fun U H => True) (As := [.int x6]) (rest := []) hC mwL_ones (c_L_ones l G x6) wd_434 wd_433 ⟨rfl, rfl⟩ ⟨Nat.le_of_ble_eq_true rfl, Nat.le_of_ble_eq_true rfl⟩ (fun _ _ _ _ h => h) (hKN.go hAL hS) trivial rfl hl.1 rfl (Nat.le_of_ble_eq_true rfl) dL_prints_36 ⟨Nat.zero_le _, Nat.zero_le _⟩) ?_
    refine lv_iload hC.1 hC.2.1 dL_prints_39 (lv_at hl 0 rfl) ?_
    refine lv_idiv hC.1 hC.2.1 dL_prints_41 (mny_ne hI.2) ?_
    refine lv_iload hC.1 hC.2.1 dL_prints_42 (lv_at hl 6 rfl) ?_
    refine runP (rS (B := fun U H => True) (As := [.int x6]) (rest := [.int ((fL_ones x6) / z0_32)]) hC mwL_ones (c_L_ones l G x6) wd_434 wd_433 ⟨rfl, rfl⟩ ⟨Nat.le_of_ble_eq_true rfl, Nat.le_of_ble_eq_true rfl⟩ (fun _ _ _ _ h => h) (hKN.go hAL hS) trivial rfl hl.1 rfl (Nat.le_of_ble_eq_true rfl) dL_prints_44 ⟨Nat.zero_le _, Nat.zero_le _⟩) ?_
    refine lv_iload hC.1 hC.2.1 dL_prints_47 (lv_at hl 0 rfl) ?_
    refine lv_irem hC.1 hC.2.1 dL_prints_49 (mny_ne hI.2) ?_
    have J58 : ∀ (y6_58 : Int32) (z0_58 : Int32) (z1_58 : Int32) (v_58 : SV), fL_prints v x6 = tL_prints_J58 v x6 y6_58 z0_58 z1_58 v_58 → Lgs v_58 → ∀ (H : Heap) (locs : List Loc), PW G (lwW G q v_58) H → va_S (lwA q) s.heap H locs → ∀ (ls : Array Slot), lv_has ls 15 [(0, .ref (q 0)), (1, .ref (q 1)), (2, .ref (q 2)), (3, .ref (q 3)), (4, .ref (q 4)), (5, .int x6), (6, .int y6_58)] → W p l e ({ frames := 2, cells := 0, slots := 0, locals := 47 }) s m ([.ref (q 0), .ref (q 1), .ref (q 2), .ref (q 3), .ref (q 4), .int x6] : List Value).toArray below meth c H locs 0 0 (MQ below (QE (none) (fun H => PW G (lwW G q (fL_prints v x6)) H) (lwA q)) ([.ref (q 0), .ref (q 1), .ref (q 2), .ref (q 3), .ref (q 4), .int x6] : List Value).toArray s 0 0 (lwA q)) (F0 m 58 ls [.int z1_58, .int z0_58]) := by
      intro y6_58 z0_58 z1_58 v_58 hg hI H locs hP hS ls hl
      refine lv_iadd hC.1 hC.2.1 dL_prints_58 ?_
      refine lv_istore (lv' := [(8, .int (z0_58 + z1_58)), (0, .ref (q 0)), (1, .ref (q 1)), (2, .ref (q 2)), (3, .ref (q 3)), (4, .ref (q 4)), (5, .int x6), (6, .int y6_58)]) hC.1 hC.2.1 dL_prints_59 hl (by decide) rfl (fun ls hl => ?_)
      refine lv_iconst (v := 0) hC.1 hC.2.1 dL_prints_61 (by decide) ?_
      refine lv_istore (lv' := [(9, .int 0), (8, .int (z0_58 + z1_58)), (0, .ref (q 0)), (1, .ref (q 1)), (2, .ref (q 2)), (3, .ref (q 3)), (4, .ref (q 4)), (5, .int x6), (6, .int y6_58)]) hC.1 hC.2.1 dL_prints_62 hl (by decide) rfl (fun ls hl => ?_)
      refine lv_aload hC.1 hC.2.1 dL_prints_64 (lv_at hl 6 rfl) ?_
      refine lv_bipush (v := 17) hC.1 hC.2.1 dL_prints_66 (by decide +kernel) ?_
      refine lv_iconst (v := 0) hC.1 hC.2.1 dL_prints_68 (by decide) ?_
      refine iast_k hC (hKN.go hAL hS) hP (lwD_D hq v_58) hS 4 rfl (n := 21) (f := (v_58 4)) 17 (rfl) (by omega) (by first | decide | omega) dL_prints_69 (fun H locs hq_1 hS => ?_)
      have hP : PW G (lwW G q (mkL (v_58 0) (v_58 1) (v_58 2) (v_58 3) (upd (v_58 4) 17 0))) H := hq_1
      have hI : Lgs (mkL (v_58 0) (v_58 1) (v_58 2) (v_58 3) (upd (v_58 4) 17 0)) := (LSn_upd hI (by decide))
      refine lv_aload hC.1 hC.2.1 dL_prints_70 (lv_at hl 6 rfl) ?_
      refine lv_bipush (v := 20) hC.1 hC.2.1 dL_prints_72 (by decide +kernel) ?_
      refine lv_iconst (v := 0) hC.1 hC.2.1 dL_prints_74 (by decide) ?_
      refine iast_k hC (hKN.go hAL hS) hP (lwD_D hq (mkL (v_58 0) (v_58 1) (v_58 2) (v_58 3) (upd (v_58 4) 17 0))) hS 4 rfl (n := 21) (f := (upd (v_58 4) 17 0)) 20 (rfl) (by omega) (by first | decide | omega) dL_prints_75 (fun H locs hq_2 hS => ?_)
      have hP : PW G (lwW G q (mkL (v_58 0) (v_58 1) (v_58 2) (v_58 3) (upd (upd (v_58 4) 17 0) 20 0))) H := hq_2
      have hI : Lgs (mkL (v_58 0) (v_58 1) (v_58 2) (v_58 3) (upd (upd (v_58 4) 17 0) 20 0)) := (LSn_upd hI (by decide))
      refine lv_iconst (v := 0) hC.1 hC.2.1 dL_prints_76 (by decide) ?_
      refine lv_istore (lv' := [(10, .int 0), (9, .int 0), (8, .int (z0_58 + z1_58)), (0, .ref (q 0)), (1, .ref (q 1)), (2, .ref (q 2)), (3, .ref (q 3)), (4, .ref (q 4)), (5, .int x6), (6, .int y6_58)]) hC.1 hC.2.1 dL_prints_77 hl (by decide) rfl (fun ls hl => ?_)
      have A79 : ∀ (y6_79 : Int32) (y8_79 : Int32), ∀ (y9_79 : Int32) (v_79 : SV), fL_prints v x6 = (tL_prints_79 v x6 y6_79 y8_79 (y9_79, v_79)) → Lgs v_79 → ∀ (H : Heap) (locs : List Loc), PW G (lwW G q v_79) H → va_S (lwA q) s.heap H locs → ∀ (ls : Array Slot), lv_has ls 15 [(0, .ref (q 0)), (3, .ref (q 3)), (4, .ref (q 4)), (5, .int x6), (6, .int y6_79), (8, .int y8_79), (9, .int y9_79)] → W p l e ({ frames := 2, cells := 0, slots := 0, locals := 47 }) s m ([.ref (q 0), .ref (q 1), .ref (q 2), .ref (q 3), .ref (q 4), .int x6] : List Value).toArray below meth c H locs 0 0 (MQ below (QE (none) (fun H => PW G (lwW G q (fL_prints v x6)) H) (lwA q)) ([.ref (q 0), .ref (q 1), .ref (q 2), .ref (q 3), .ref (q 4), .int x6] : List Value).toArray s 0 0 (lwA q)) (F0 m 401 ls []) := by
        intro y6_79 y8_79 y9_79 v_79 hg hI H locs hP hS ls hl
        refine lv_aload_n hC.1 hC.2.1 dL_prints_401 rfl (lv_at hl 0 rfl) ?_
        refine lv_aload hC.1 hC.2.1 dL_prints_402 (lv_at hl 2 rfl) ?_
        refine lv_aload hC.1 hC.2.1 dL_prints_404 (lv_at hl 2 rfl) ?_
        refine lv_bipush (v := 6) hC.1 hC.2.1 dL_prints_406 (by decide +kernel) ?_
        refine iald_k hC (hKN.go hAL hS) hP 4 rfl (n := 21) (f := (v_79 4)) 6 (rfl) (by omega) (by first | decide | omega) dL_prints_408 ?_
        refine runE (rS (B := fun U H => PW G (lwW G q v_79) H) (As := [.ref (q 0), .ref (q 4), .int ((v_79 4) 6)]) (rest := []) hC mwL_passes (c_L_passes l G q v_79 ((v_79 4) 6) hq hI) wd_440 wd_439 ⟨rfl, rfl⟩ ⟨Nat.le_of_ble_eq_true rfl, Nat.le_of_ble_eq_true rfl⟩ (stb_h (fun H => PW G (lwW G q v_79) H)) (hKN.go hAL hS) hP rfl hl.1 rfl (Nat.le_of_ble_eq_true rfl) dL_prints_409 ⟨Nat.zero_le _, Nat.zero_le _⟩) hS (fun _ h => h) (fun _ h => h) (fun H locs hq_3 _ _ hS => ?_)
        have hP : PW G (lwW G q (fL_passes v_79 ((v_79 4) 6))) H := hq_3
        obtain ⟨r_4, er_4⟩ : ∃ z, z = fL_passes v_79 ((v_79 4) 6) := ⟨_, rfl⟩
        rw [← er_4] at hP
        have hI : Lgs r_4 := by rw [er_4]; exact I_L_passes v_79 ((v_79 4) 6) hI
        refine lv_bipush (v := 35) hC.1 hC.2.1 dL_prints_412 (by decide +kernel) ?_
        refine lv_istore (lv' := [(10, .int 35), (0, .ref (q 0)), (3, .ref (q 3)), (4, .ref (q 4)), (5, .int x6), (6, .int y6_79), (8, .int y8_79), (9, .int y9_79)]) hC.1 hC.2.1 dL_prints_414 hl (by decide) rfl (fun ls hl => ?_)
        have A416 : ∀ (y6_416 : Int32) (y8_416 : Int32) (y9_416 : Int32), ∀ (v_416 : SV), fL_prints v x6 = (tL_prints_416 v x6 y6_416 y8_416 y9_416 v_416) → Lgs v_416 → ∀ (H : Heap) (locs : List Loc), PW G (lwW G q v_416) H → va_S (lwA q) s.heap H locs → ∀ (ls : Array Slot), lv_has ls 15 [(3, .ref (q 3)), (4, .ref (q 4)), (5, .int x6), (6, .int y6_416), (8, .int y8_416), (9, .int y9_416)] → W p l e ({ frames := 2, cells := 0, slots := 0, locals := 47 }) s m ([.ref (q 0), .ref (q 1), .ref (q 2), .ref (q 3), .ref (q 4), .int x6] : List Value).toArray below meth c H locs 0 0 (MQ below (QE (none) (fun H => PW G (lwW G q (fL_prints v x6)) H) (lwA q)) ([.ref (q 0), .ref (q 1), .ref (q 2), .ref (q 3), .ref (q 4), .int x6] : List Value).toArray s 0 0 (lwA q)) (F0 m 438 ls []) := by
          intro y6_416 y8_416 y9_416 v_416 hg hI H locs hP hS ls hl
          refine lv_aload_n hC.1 hC.2.1 dL_prints_438 rfl (lv_at hl 0 rfl) ?_
          refine lv_iconst (v := 0) hC.1 hC.2.1 dL_prints_439 (by decide) ?_
          refine lv_iload hC.1 hC.2.1 dL_prints_440 (lv_at hl 5 rfl) ?_
          refine iast_k hC (hKN.go hAL hS) hP (lwD_D hq v_416) hS 3 rfl (n := 36) (f := (v_416 3)) 0 (rfl) (by omega) (by first | decide | omega) dL_prints_442 (fun H locs hq_5 hS => ?_)
          have hP : PW G (lwW G q (mkL (v_416 0) (v_416 1) (v_416 2) (upd (v_416 3) 0 y9_416) (v_416 4))) H := hq_5
          have hI : Lgs (mkL (v_416 0) (v_416 1) (v_416 2) (upd (v_416 3) 0 y9_416) (v_416 4)) := hI
          refine lv_aload_n hC.1 hC.2.1 dL_prints_443 rfl (lv_at hl 0 rfl) ?_
          refine lv_iconst (v := 1) hC.1 hC.2.1 dL_prints_444 (by decide) ?_
          refine lv_iload hC.1 hC.2.1 dL_prints_445 (lv_at hl 2 rfl) ?_
          refine lv_iload hC.1 hC.2.1 dL_prints_447 (lv_at hl 5 rfl) ?_
          refine lv_ixor hC.1 hC.2.1 dL_prints_449 ?_
          refine lv_topi (fun w_6 ew_6 => ?_)
          refine iast_k hC (hKN.go hAL hS) hP (lwD_D hq (mkL (v_416 0) (v_416 1) (v_416 2) (upd (v_416 3) 0 y9_416) (v_416 4))) hS 3 rfl (n := 36) (f := (upd (v_416 3) 0 y9_416)) 1 (rfl) (by omega) (by first | decide | omega) dL_prints_450 (fun H locs hq_7 hS => ?_)
          have hP : PW G (lwW G q (mkL (v_416 0) (v_416 1) (v_416 2) (upd (upd (v_416 3) 0 y9_416) 1 w_6) (v_416 4))) H := hq_7
          have hI : Lgs (mkL (v_416 0) (v_416 1) (v_416 2) (upd (upd (v_416 3) 0 y9_416) 1 w_6) (v_416 4)) := hI
          refine lv_aload_n hC.1 hC.2.1 dL_prints_451 rfl (lv_at hl 0 rfl) ?_
          refine lv_iconst (v := 2) hC.1 hC.2.1 dL_prints_452 (by decide) ?_
          refine lv_iload hC.1 hC.2.1 dL_prints_453 (lv_at hl 4 rfl) ?_
          refine iast_k hC (hKN.go hAL hS) hP (lwD_D hq (mkL (v_416 0) (v_416 1) (v_416 2) (upd (upd (v_416 3) 0 y9_416) 1 w_6) (v_416 4))) hS 3 rfl (n := 36) (f := (upd (upd (v_416 3) 0 y9_416) 1 w_6)) 2 (rfl) (by omega) (by first | decide | omega) dL_prints_455 (fun H locs hq_8 hS => ?_)
          have hP : PW G (lwW G q (mkL (v_416 0) (v_416 1) (v_416 2) (upd (upd (upd (v_416 3) 0 y9_416) 1 w_6) 2 y8_416) (v_416 4))) H := hq_8
          have hI : Lgs (mkL (v_416 0) (v_416 1) (v_416 2) (upd (upd (upd (v_416 3) 0 y9_416) 1 w_6) 2 y8_416) (v_416 4)) := hI
          refine lv_aload hC.1 hC.2.1 dL_prints_456 (lv_at hl 1 rfl) ?_
          refine lv_bipush (v := 15) hC.1 hC.2.1 dL_prints_458 (by decide +kernel) ?_
          refine lv_dup2_11 hC.1 hC.2.1 dL_prints_460 rfl rfl ?_
          refine iald_k hC (hKN.go hAL hS) hP 4 rfl (n := 21) (f := (v_416 4)) 15 (rfl) (by omega) (by first | decide | omega) dL_prints_461 ?_
          refine lv_aload hC.1 hC.2.1 dL_prints_462 (lv_at hl 1 rfl) ?_
          refine lv_bipush (v := 15) hC.1 hC.2.1 dL_prints_464 (by decide +kernel) ?_
          refine iald_k hC (hKN.go hAL hS) hP 4 rfl (n := 21) (f := (v_416 4)) 15 (rfl) (by omega) (by first | decide | omega) dL_prints_466 ?_
          refine lv_bipush (v := 12) hC.1 hC.2.1 dL_prints_467 (by decide +kernel) ?_
          have J477 : ∀ (y6_477 : Int32) (y8_477 : Int32) (z2_477 : Int32) (z3_477 : Int32) (v_477 : SV), fL_prints v x6 = tL_prints_J477 v x6 y6_477 y8_477 z2_477 z3_477 v_477 → Lgs v_477 → ∀ (H : Heap) (locs : List Loc), PW G (lwW G q v_477) H → va_S (lwA q) s.heap H locs → ∀ (ls : Array Slot), lv_has ls 15 [(3, .ref (q 3)), (4, .ref (q 4)), (5, .int x6), (6, .int y6_477), (8, .int y8_477)] → W p l e ({ frames := 2, cells := 0, slots := 0, locals := 47 }) s m ([.ref (q 0), .ref (q 1), .ref (q 2), .ref (q 3), .ref (q 4), .int x6] : List Value).toArray below meth c H locs 0 0 (MQ below (QE (none) (fun H => PW G (lwW G q (fL_prints v x6)) H) (lwA q)) ([.ref (q 0), .ref (q 1), .ref (q 2), .ref (q 3), .ref (q 4), .int x6] : List Value).toArray s 0 0 (lwA q)) (F0 m 477 ls [.int z3_477, .int z2_477, .int 15, .ref (q 4)]) := by
            intro y6_477 y8_477 z2_477 z3_477 v_477 hg hI H locs hP hS ls hl
            refine lv_iadd hC.1 hC.2.1 dL_prints_477 ?_
            refine lv_topi (fun w_9 ew_9 => ?_)
            refine iast_k hC (hKN.go hAL hS) hP (lwD_D hq v_477) hS 4 rfl (n := 21) (f := (v_477 4)) 15 (rfl) (by omega) (by first | decide | omega) dL_prints_478 (fun H locs hq_10 hS => ?_)
            have hP : PW G (lwW G q (mkL (v_477 0) (v_477 1) (v_477 2) (v_477 3) (upd (v_477 4) 15 w_9))) H := hq_10
            have hI : Lgs (mkL (v_477 0) (v_477 1) (v_477 2) (v_477 3) (upd (v_477 4) 15 w_9)) := (LSn_upd hI (by decide))
            refine lv_aload hC.1 hC.2.1 dL_prints_479 (lv_at hl 1 rfl) ?_
            refine lv_bipush (v := 14) hC.1 hC.2.1 dL_prints_481 (by decide +kernel) ?_
            refine lv_aload hC.1 hC.2.1 dL_prints_483 (lv_at hl 1 rfl) ?_
            refine lv_bipush (v := 13) hC.1 hC.2.1 dL_prints_485 (by decide +kernel) ?_
            refine iald_k hC (hKN.go hAL hS) hP 4 rfl (n := 21) (f := (upd (v_477 4) 15 w_9)) 13 (rfl) (by omega) (by first | decide | omega) dL_prints_487 ?_
            refine lv_topi (fun w_11 ew_11 => ?_)
            refine iast_k hC (hKN.go hAL hS) hP (lwD_D hq (mkL (v_477 0) (v_477 1) (v_477 2) (v_477 3) (upd (v_477 4) 15 w_9))) hS 4 rfl (n := 21) (f := (upd (v_477 4) 15 w_9)) 14 (rfl) (by omega) (by first | decide | omega) dL_prints_488 (fun H locs hq_12 hS => ?_)
            have hP : PW G (lwW G q (mkL (v_477 0) (v_477 1) (v_477 2) (v_477 3) (upd (upd (v_477 4) 15 w_9) 14 w_11))) H := hq_12
            have hI : Lgs (mkL (v_477 0) (v_477 1) (v_477 2) (v_477 3) (upd (upd (v_477 4) 15 w_9) 14 w_11)) := (LSn_upd hI (by decide))
            refine lv_aload hC.1 hC.2.1 dL_prints_489 (lv_at hl 1 rfl) ?_
            refine lv_bipush (v := 13) hC.1 hC.2.1 dL_prints_491 (by decide +kernel) ?_
            refine lv_iload hC.1 hC.2.1 dL_prints_493 (lv_at hl 2 rfl) ?_
            refine iast_k hC (hKN.go hAL hS) hP (lwD_D hq (mkL (v_477 0) (v_477 1) (v_477 2) (v_477 3) (upd (upd (v_477 4) 15 w_9) 14 w_11))) hS 4 rfl (n := 21) (f := (upd (upd (v_477 4) 15 w_9) 14 w_11)) 13 (rfl) (by omega) (by first | decide | omega) dL_prints_495 (fun H locs hq_13 hS => ?_)
            have hP : PW G (lwW G q (mkL (v_477 0) (v_477 1) (v_477 2) (v_477 3) (upd (upd (upd (v_477 4) 15 w_9) 14 w_11) 13 x6))) H := hq_13
            have hI : Lgs (mkL (v_477 0) (v_477 1) (v_477 2) (v_477 3) (upd (upd (upd (v_477 4) 15 w_9) 14 w_11) 13 x6)) := (LSn_upd hI (by decide))
            refine lv_aload hC.1 hC.2.1 dL_prints_496 (lv_at hl 1 rfl) ?_
            refine lv_bipush (v := 9) hC.1 hC.2.1 dL_prints_498 (by decide +kernel) ?_
            refine lv_dup2_11 hC.1 hC.2.1 dL_prints_500 rfl rfl ?_
            refine iald_k hC (hKN.go hAL hS) hP 4 rfl (n := 21) (f := (upd (upd (upd (v_477 4) 15 w_9) 14 w_11) 13 x6)) 9 (rfl) (by omega) (by first | decide | omega) dL_prints_501 ?_
            refine lv_iconst (v := 1) hC.1 hC.2.1 dL_prints_502 (by decide) ?_
            refine lv_iadd hC.1 hC.2.1 dL_prints_503 ?_
            refine lv_topi (fun w_14 ew_14 => ?_)
            refine iast_k hC (hKN.go hAL hS) hP (lwD_D hq (mkL (v_477 0) (v_477 1) (v_477 2) (v_477 3) (upd (upd (upd (v_477 4) 15 w_9) 14 w_11) 13 x6))) hS 4 rfl (n := 21) (f := (upd (upd (upd (v_477 4) 15 w_9) 14 w_11) 13 x6)) 9 (rfl) (by omega) (by first | decide | omega) dL_prints_504 (fun H locs hq_15 hS => ?_)
            have hP : PW G (lwW G q (mkL (v_477 0) (v_477 1) (v_477 2) (v_477 3) (upd (upd (upd (upd (v_477 4) 15 w_9) 14 w_11) 13 x6) 9 w_14))) H := hq_15
            have hI : Lgs (mkL (v_477 0) (v_477 1) (v_477 2) (v_477 3) (upd (upd (upd (upd (v_477 4) 15 w_9) 14 w_11) 13 x6) 9 w_14)) := (LSn_upd hI (by decide))
            refine lv_aload hC.1 hC.2.1 dL_prints_505 (lv_at hl 1 rfl) ?_
            refine lv_bipush (v := 10) hC.1 hC.2.1 dL_prints_507 (by decide +kernel) ?_
            refine lv_dup2_11 hC.1 hC.2.1 dL_prints_509 rfl rfl ?_
            refine iald_k hC (hKN.go hAL hS) hP 4 rfl (n := 21) (f := (upd (upd (upd (upd (v_477 4) 15 w_9) 14 w_11) 13 x6) 9 w_14)) 10 (rfl) (by omega) (by first | decide | omega) dL_prints_510 ?_
            refine lv_iload hC.1 hC.2.1 dL_prints_511 (lv_at hl 4 rfl) ?_
            refine lv_iadd hC.1 hC.2.1 dL_prints_513 ?_
            refine lv_topi (fun w_16 ew_16 => ?_)
            refine iast_k hC (hKN.go hAL hS) hP (lwD_D hq (mkL (v_477 0) (v_477 1) (v_477 2) (v_477 3) (upd (upd (upd (upd (v_477 4) 15 w_9) 14 w_11) 13 x6) 9 w_14))) hS 4 rfl (n := 21) (f := (upd (upd (upd (upd (v_477 4) 15 w_9) 14 w_11) 13 x6) 9 w_14)) 10 (rfl) (by omega) (by first | decide | omega) dL_prints_514 (fun H locs hq_17 hS => ?_)
            have hP : PW G (lwW G q (mkL (v_477 0) (v_477 1) (v_477 2) (v_477 3) (upd (upd (upd (upd (upd (v_477 4) 15 w_9) 14 w_11) 13 x6) 9 w_14) 10 w_16))) H := hq_17
            have hI : Lgs (mkL (v_477 0) (v_477 1) (v_477 2) (v_477 3) (upd (upd (upd (upd (upd (v_477 4) 15 w_9) 14 w_11) 13 x6) 9 w_14) 10 w_16)) := (LSn_upd hI (by decide))
            refine lv_aload hC.1 hC.2.1 dL_prints_515 (lv_at hl 1 rfl) ?_
            refine lv_bipush (v := 11) hC.1 hC.2.1 dL_prints_517 (by decide +kernel) ?_
            refine lv_dup2_11 hC.1 hC.2.1 dL_prints_519 rfl rfl ?_
            refine iald_k hC (hKN.go hAL hS) hP 4 rfl (n := 21) (f := (upd (upd (upd (upd (upd (v_477 4) 15 w_9) 14 w_11) 13 x6) 9 w_14) 10 w_16)) 11 (rfl) (by omega) (by first | decide | omega) dL_prints_520 ?_
            refine lv_aload hC.1 hC.2.1 dL_prints_521 (lv_at hl 1 rfl) ?_
            refine lv_bipush (v := 17) hC.1 hC.2.1 dL_prints_523 (by decide +kernel) ?_
            refine iald_k hC (hKN.go hAL hS) hP 4 rfl (n := 21) (f := (upd (upd (upd (upd (upd (v_477 4) 15 w_9) 14 w_11) 13 x6) 9 w_14) 10 w_16)) 17 (rfl) (by omega) (by first | decide | omega) dL_prints_525 ?_
            refine lv_iadd hC.1 hC.2.1 dL_prints_526 ?_
            refine lv_topi (fun w_18 ew_18 => ?_)
            refine iast_k hC (hKN.go hAL hS) hP (lwD_D hq (mkL (v_477 0) (v_477 1) (v_477 2) (v_477 3) (upd (upd (upd (upd (upd (v_477 4) 15 w_9) 14 w_11) 13 x6) 9 w_14) 10 w_16))) hS 4 rfl (n := 21) (f := (upd (upd (upd (upd (upd (v_477 4) 15 w_9) 14 w_11) 13 x6) 9 w_14) 10 w_16)) 11 (rfl) (by omega) (by first | decide | omega) dL_prints_527 (fun H locs hq_19 hS => ?_)
            have hP : PW G (lwW G q (mkL (v_477 0) (v_477 1) (v_477 2) (v_477 3) (upd (upd (upd (upd (upd (upd (v_477 4) 15 w_9) 14 w_11) 13 x6) 9 w_14) 10 w_16) 11 w_18))) H := hq_19
            have hI : Lgs (mkL (v_477 0) (v_477 1) (v_477 2) (v_477 3) (upd (upd (upd (upd (upd (upd (v_477 4) 15 w_9) 14 w_11) 13 x6) 9 w_14) 10 w_16) 11 w_18)) := (LSn_upd hI (by decide))
            refine lv_aload hC.1 hC.2.1 dL_prints_528 (lv_at hl 1 rfl) ?_
            refine lv_bipush (v := 12) hC.1 hC.2.1 dL_prints_530 (by decide +kernel) ?_
            refine lv_aload hC.1 hC.2.1 dL_prints_532 (lv_at hl 1 rfl) ?_
            refine lv_bipush (v := 20) hC.1 hC.2.1 dL_prints_534 (by decide +kernel) ?_
            refine iald_k hC (hKN.go hAL hS) hP 4 rfl (n := 21) (f := (upd (upd (upd (upd (upd (upd (v_477 4) 15 w_9) 14 w_11) 13 x6) 9 w_14) 10 w_16) 11 w_18)) 20 (rfl) (by omega) (by first | decide | omega) dL_prints_536 ?_
            refine lv_aload hC.1 hC.2.1 dL_prints_537 (lv_at hl 1 rfl) ?_
            refine lv_bipush (v := 12) hC.1 hC.2.1 dL_prints_539 (by decide +kernel) ?_
            refine iald_k hC (hKN.go hAL hS) hP 4 rfl (n := 21) (f := (upd (upd (upd (upd (upd (upd (v_477 4) 15 w_9) 14 w_11) 13 x6) 9 w_14) 10 w_16) 11 w_18)) 12 (rfl) (by omega) (by first | decide | omega) dL_prints_541 ?_
            have J558 : ∀ (y6_558 : Int32) (y8_558 : Int32) (z2_558 : Int32) (v_558 : SV), fL_prints v x6 = tL_prints_J558 v x6 y6_558 y8_558 z2_558 v_558 → Lgs v_558 → ∀ (H : Heap) (locs : List Loc), PW G (lwW G q v_558) H → va_S (lwA q) s.heap H locs → ∀ (ls : Array Slot), lv_has ls 15 [(3, .ref (q 3)), (4, .ref (q 4)), (6, .int y6_558), (8, .int y8_558)] → W p l e ({ frames := 2, cells := 0, slots := 0, locals := 47 }) s m ([.ref (q 0), .ref (q 1), .ref (q 2), .ref (q 3), .ref (q 4), .int x6] : List Value).toArray below meth c H locs 0 0 (MQ below (QE (none) (fun H => PW G (lwW G q (fL_prints v x6)) H) (lwA q)) ([.ref (q 0), .ref (q 1), .ref (q 2), .ref (q 3), .ref (q 4), .int x6] : List Value).toArray s 0 0 (lwA q)) (F0 m 558 ls [.int z2_558, .int 12, .ref (q 4)]) := by
              intro y6_558 y8_558 z2_558 v_558 hg hI H locs hP hS ls hl
              refine iast_k hC (hKN.go hAL hS) hP (lwD_D hq v_558) hS 4 rfl (n := 21) (f := (v_558 4)) 12 (rfl) (by omega) (by first | decide | omega) dL_prints_558 (fun H locs hq_20 hS => ?_)
              have hP : PW G (lwW G q (mkL (v_558 0) (v_558 1) (v_558 2) (v_558 3) (upd (v_558 4) 12 z2_558))) H := hq_20
              have hI : Lgs (mkL (v_558 0) (v_558 1) (v_558 2) (v_558 3) (upd (v_558 4) 12 z2_558)) := (LSn_upd hI (by decide))
              refine lv_aload hC.1 hC.2.1 dL_prints_559 (lv_at hl 1 rfl) ?_
              refine lv_bipush (v := 16) hC.1 hC.2.1 dL_prints_561 (by decide +kernel) ?_
              refine lv_aload hC.1 hC.2.1 dL_prints_563 (lv_at hl 1 rfl) ?_
              refine lv_bipush (v := 8) hC.1 hC.2.1 dL_prints_565 (by decide +kernel) ?_
              refine iald_k hC (hKN.go hAL hS) hP 4 rfl (n := 21) (f := (upd (v_558 4) 12 z2_558)) 8 (rfl) (by omega) (by first | decide | omega) dL_prints_567 ?_
              refine lv_iload hC.1 hC.2.1 dL_prints_568 (lv_at hl 2 rfl) ?_
              refine lv_isub hC.1 hC.2.1 dL_prints_570 ?_
              refine lv_topi (fun w_21 ew_21 => ?_)
              refine iast_k hC (hKN.go hAL hS) hP (lwD_D hq (mkL (v_558 0) (v_558 1) (v_558 2) (v_558 3) (upd (v_558 4) 12 z2_558))) hS 4 rfl (n := 21) (f := (upd (v_558 4) 12 z2_558)) 16 (rfl) (by omega) (by first | decide | omega) dL_prints_571 (fun H locs hq_22 hS => ?_)
              have hP : PW G (lwW G q (mkL (v_558 0) (v_558 1) (v_558 2) (v_558 3) (upd (upd (v_558 4) 12 z2_558) 16 w_21))) H := hq_22
              have hI : Lgs (mkL (v_558 0) (v_558 1) (v_558 2) (v_558 3) (upd (upd (v_558 4) 12 z2_558) 16 w_21)) := (LSn_upd hI (by decide))
              refine lv_aload hC.1 hC.2.1 dL_prints_572 (lv_at hl 1 rfl) ?_
              refine lv_bipush (v := 18) hC.1 hC.2.1 dL_prints_574 (by decide +kernel) ?_
              refine lv_iload hC.1 hC.2.1 dL_prints_576 (lv_at hl 3 rfl) ?_
              refine iast_k hC (hKN.go hAL hS) hP (lwD_D hq (mkL (v_558 0) (v_558 1) (v_558 2) (v_558 3) (upd (upd (v_558 4) 12 z2_558) 16 w_21))) hS 4 rfl (n := 21) (f := (upd (upd (v_558 4) 12 z2_558) 16 w_21)) 18 (rfl) (by omega) (by first | decide | omega) dL_prints_578 (fun H locs hq_23 hS => ?_)
              have hP : PW G (lwW G q (mkL (v_558 0) (v_558 1) (v_558 2) (v_558 3) (upd (upd (upd (v_558 4) 12 z2_558) 16 w_21) 18 y8_558))) H := hq_23
              have hI : Lgs (mkL (v_558 0) (v_558 1) (v_558 2) (v_558 3) (upd (upd (upd (v_558 4) 12 z2_558) 16 w_21) 18 y8_558)) := (LSn_upd hI (by decide))
              refine lv_aload hC.1 hC.2.1 dL_prints_579 (lv_at hl 1 rfl) ?_
              refine lv_bipush (v := 19) hC.1 hC.2.1 dL_prints_581 (by decide +kernel) ?_
              refine lv_aload_n hC.1 hC.2.1 dL_prints_583 rfl (lv_at hl 0 rfl) ?_
              refine lv_iconst (v := 1) hC.1 hC.2.1 dL_prints_584 (by decide) ?_
              refine iald_k hC (hKN.go hAL hS) hP 3 rfl (n := 36) (f := (v_558 3)) 1 (rfl) (by omega) (by first | decide | omega) dL_prints_585 ?_
              refine runP (rS (B := fun U H => True) (As := [.int ((v_558 3) 1)]) (rest := [.int 19, .ref (q 4)]) hC mwL_ones (c_L_ones l G ((v_558 3) 1)) wd_434 wd_433 ⟨rfl, rfl⟩ ⟨Nat.le_of_ble_eq_true rfl, Nat.le_of_ble_eq_true rfl⟩ (fun _ _ _ _ h => h) (hKN.go hAL hS) trivial rfl hl.1 rfl (Nat.le_of_ble_eq_true rfl) dL_prints_586 ⟨Nat.zero_le _, Nat.zero_le _⟩) ?_
              refine lv_topi (fun w_24 ew_24 => ?_)
              refine iast_k hC (hKN.go hAL hS) hP (lwD_D hq (mkL (v_558 0) (v_558 1) (v_558 2) (v_558 3) (upd (upd (upd (v_558 4) 12 z2_558) 16 w_21) 18 y8_558))) hS 4 rfl (n := 21) (f := (upd (upd (upd (v_558 4) 12 z2_558) 16 w_21) 18 y8_558)) 19 (rfl) (by omega) (by first | decide | omega) dL_prints_589 (fun H locs hq_25 hS => ?_)
              have hP : PW G (lwW G q (mkL (v_558 0) (v_558 1) (v_558 2) (v_558 3) (upd (upd (upd (upd (v_558 4) 12 z2_558) 16 w_21) 18 y8_558) 19 w_24))) H := hq_25
              have hI : Lgs (mkL (v_558 0) (v_558 1) (v_558 2) (v_558 3) (upd (upd (upd (upd (v_558 4) 12 z2_558) 16 w_21) 18 y8_558) 19 w_24)) := (LSn_upd hI (by decide))
              have e_26 : tL_prints_J558 v x6 y6_558 y8_558 z2_558 v_558 = mkL (v_558 0) (v_558 1) (v_558 2) (v_558 3) (upd (upd (upd (upd (v_558 4) 12 z2_558) 16 w_21) 18 y8_558) 19 w_24) := by have q_ := ew_24.symm; subst q_; have q_ := ew_21.symm; subst q_; delta tL_prints_J558; exact rfl
              have hg : fL_prints v x6 = mkL (v_558 0) (v_558 1) (v_558 2) (v_558 3) (upd (upd (upd (upd (v_558 4) 12 z2_558) 16 w_21) 18 y8_558) 19 w_24) := by have e2 := congrArg (fun z => z) e_26; exact hg.trans e2
              exact eE_v hC (by show PW G (lwW G q (fL_prints v x6)) H; rw [hg]; exact hP) hS dL_prints_590
            refine lv_icmp_le (tgt := 553) hC.1 hC.2.1 dL_prints_542 (by decide) (fun k542 => ?_) (fun k542 => ?_)
            · refine lv_aload hC.1 hC.2.1 dL_prints_553 (lv_at hl 1 rfl) ?_
              refine lv_bipush (v := 12) hC.1 hC.2.1 dL_prints_555 (by decide +kernel) ?_
              refine iald_k hC (hKN.go hAL hS) hP 4 rfl (n := 21) (f := (upd (upd (upd (upd (upd (upd (v_477 4) 15 w_9) 14 w_11) 13 x6) 9 w_14) 10 w_16) 11 w_18)) 12 (rfl) (by omega) (by first | decide | omega) dL_prints_557 ?_
              have e_27 : tL_prints_J477 v x6 y6_477 y8_477 z2_477 z3_477 v_477 = tL_prints_J558 v x6 y6_477 y8_477 ((upd (upd (upd (upd (upd (upd (v_477 4) 15 w_9) 14 w_11) 13 x6) 9 w_14) 10 w_16) 11 w_18) 12) (mkL (v_477 0) (v_477 1) (v_477 2) (v_477 3) (upd (upd (upd (upd (upd (upd (v_477 4) 15 w_9) 14 w_11) 13 x6) 9 w_14) 10 w_16) 11 w_18)) := by have q_ := ew_18.symm; subst q_; have q_ := ew_16.symm; subst q_; have q_ := ew_14.symm; subst q_; have q_ := ew_11.symm; subst q_; have q_ := ew_9.symm; subst q_; delta tL_prints_J477; exact Eq.trans (if_pos k542) rfl
              have hg : fL_prints v x6 = tL_prints_J558 v x6 y6_477 y8_477 ((upd (upd (upd (upd (upd (upd (v_477 4) 15 w_9) 14 w_11) 13 x6) 9 w_14) 10 w_16) 11 w_18) 12) (mkL (v_477 0) (v_477 1) (v_477 2) (v_477 3) (upd (upd (upd (upd (upd (upd (v_477 4) 15 w_9) 14 w_11) 13 x6) 9 w_14) 10 w_16) 11 w_18)) := by have e2 := congrArg (fun z => z) e_27; exact hg.trans e2
              exact J558 y6_477 y8_477 ((upd (upd (upd (upd (upd (upd (v_477 4) 15 w_9) 14 w_11) 13 x6) 9 w_14) 10 w_16) 11 w_18) 12) (mkL (v_477 0) (v_477 1) (v_477 2) (v_477 3) (upd (upd (upd (upd (upd (upd (v_477 4) 15 w_9) 14 w_11) 13 x6) 9 w_14) 10 w_16) 11 w_18)) hg hI _ _ hP hS _ (lv_sub hl [0, 1, 3, 4] rfl)
            · refine lv_aload hC.1 hC.2.1 dL_prints_545 (lv_at hl 1 rfl) ?_
              refine lv_bipush (v := 20) hC.1 hC.2.1 dL_prints_547 (by decide +kernel) ?_
              refine iald_k hC (hKN.go hAL hS) hP 4 rfl (n := 21) (f := (upd (upd (upd (upd (upd (upd (v_477 4) 15 w_9) 14 w_11) 13 x6) 9 w_14) 10 w_16) 11 w_18)) 20 (rfl) (by omega) (by first | decide | omega) dL_prints_549 ?_
              refine lv_goto (tgt := 558) hC.1 hC.2.1 dL_prints_550 (by decide) ?_
              have e_28 : tL_prints_J477 v x6 y6_477 y8_477 z2_477 z3_477 v_477 = tL_prints_J558 v x6 y6_477 y8_477 ((upd (upd (upd (upd (upd (upd (v_477 4) 15 w_9) 14 w_11) 13 x6) 9 w_14) 10 w_16) 11 w_18) 20) (mkL (v_477 0) (v_477 1) (v_477 2) (v_477 3) (upd (upd (upd (upd (upd (upd (v_477 4) 15 w_9) 14 w_11) 13 x6) 9 w_14) 10 w_16) 11 w_18)) := by have q_ := ew_18.symm; subst q_; have q_ := ew_16.symm; subst q_; have q_ := ew_14.symm; subst q_; have q_ := ew_11.symm; subst q_; have q_ := ew_9.symm; subst q_; delta tL_prints_J477; exact Eq.trans (if_neg k542) rfl
              have hg : fL_prints v x6 = tL_prints_J558 v x6 y6_477 y8_477 ((upd (upd (upd (upd (upd (upd (v_477 4) 15 w_9) 14 w_11) 13 x6) 9 w_14) 10 w_16) 11 w_18) 20) (mkL (v_477 0) (v_477 1) (v_477 2) (v_477 3) (upd (upd (upd (upd (upd (upd (v_477 4) 15 w_9) 14 w_11) 13 x6) 9 w_14) 10 w_16) 11 w_18)) := by have e2 := congrArg (fun z => z) e_28; exact hg.trans e2
              exact J558 y6_477 y8_477 ((upd (upd (upd (upd (upd (upd (v_477 4) 15 w_9) 14 w_11) 13 x6) 9 w_14) 10 w_16) 11 w_18) 20) (mkL (v_477 0) (v_477 1) (v_477 2) (v_477 3) (upd (upd (upd (upd (upd (upd (v_477 4) 15 w_9) 14 w_11) 13 x6) 9 w_14) 10 w_16) 11 w_18)) hg hI _ _ hP hS _ (lv_sub hl [0, 1, 3, 4] rfl)
          refine lv_icmp_ge (tgt := 476) hC.1 hC.2.1 dL_prints_469 (by decide) (fun k469 => ?_) (fun k469 => ?_)
          · refine lv_iconst (v := 0) hC.1 hC.2.1 dL_prints_476 (by decide) ?_
            have e_29 : tL_prints_416 v x6 y6_416 y8_416 y9_416 v_416 = tL_prints_J477 v x6 y6_416 y8_416 ((v_416 4) 15) 0 (mkL (v_416 0) (v_416 1) (v_416 2) (upd (upd (upd (v_416 3) 0 y9_416) 1 w_6) 2 y8_416) (v_416 4)) := by have q_ := ew_6.symm; subst q_; delta tL_prints_416; exact Eq.trans (if_pos k469) rfl
            have hg : fL_prints v x6 = tL_prints_J477 v x6 y6_416 y8_416 ((v_416 4) 15) 0 (mkL (v_416 0) (v_416 1) (v_416 2) (upd (upd (upd (v_416 3) 0 y9_416) 1 w_6) 2 y8_416) (v_416 4)) := by have e2 := congrArg (fun z => z) e_29; exact hg.trans e2
            exact J477 y6_416 y8_416 ((v_416 4) 15) 0 (mkL (v_416 0) (v_416 1) (v_416 2) (upd (upd (upd (v_416 3) 0 y9_416) 1 w_6) 2 y8_416) (v_416 4)) hg hI _ _ hP hS _ (lv_sub hl [0, 1, 2, 3, 4] rfl)
          · refine lv_iconst (v := 1) hC.1 hC.2.1 dL_prints_472 (by decide) ?_
            refine lv_goto (tgt := 477) hC.1 hC.2.1 dL_prints_473 (by decide) ?_
            have e_30 : tL_prints_416 v x6 y6_416 y8_416 y9_416 v_416 = tL_prints_J477 v x6 y6_416 y8_416 ((v_416 4) 15) 1 (mkL (v_416 0) (v_416 1) (v_416 2) (upd (upd (upd (v_416 3) 0 y9_416) 1 w_6) 2 y8_416) (v_416 4)) := by have q_ := ew_6.symm; subst q_; delta tL_prints_416; exact Eq.trans (if_neg k469) rfl
            have hg : fL_prints v x6 = tL_prints_J477 v x6 y6_416 y8_416 ((v_416 4) 15) 1 (mkL (v_416 0) (v_416 1) (v_416 2) (upd (upd (upd (v_416 3) 0 y9_416) 1 w_6) 2 y8_416) (v_416 4)) := by have e2 := congrArg (fun z => z) e_30; exact hg.trans e2
            exact J477 y6_416 y8_416 ((v_416 4) 15) 1 (mkL (v_416 0) (v_416 1) (v_416 2) (upd (upd (upd (v_416 3) 0 y9_416) 1 w_6) 2 y8_416) (v_416 4)) hg hI _ _ hP hS _ (lv_sub hl [0, 1, 2, 3, 4] rfl)
        have L416 : ∀ (y6_416 : Int32) (y8_416 : Int32) (y9_416 : Int32), ∀ (n416 : Nat), ∀ (v_416 : SV), n416 ≤ 33 → fL_prints v x6 = (tL_prints_416 v x6 y6_416 y8_416 y9_416 (lpD n416 (bL_prints_416 v x6 y6_416 y8_416 y9_416) v_416)) → Lgs v_416 → ∀ (H : Heap) (locs : List Loc), PW G (lwW G q v_416) H → va_S (lwA q) s.heap H locs → ∀ (ls : Array Slot), lv_has ls 15 [(3, .ref (q 3)), (4, .ref (q 4)), (5, .int x6), (6, .int y6_416), (8, .int y8_416), (9, .int y9_416), (10, .int (nI (n416 + 2)))] → W p l e ({ frames := 2, cells := 0, slots := 0, locals := 47 }) s m ([.ref (q 0), .ref (q 1), .ref (q 2), .ref (q 3), .ref (q 4), .int x6] : List Value).toArray below meth c H locs 0 0 (MQ below (QE (none) (fun H => PW G (lwW G q (fL_prints v x6)) H) (lwA q)) ([.ref (q 0), .ref (q 1), .ref (q 2), .ref (q 3), .ref (q 4), .int x6] : List Value).toArray s 0 0 (lwA q)) (F0 m 416 ls []) := by
          intro y6_416 y8_416 y9_416
          intro n416
          induction n416 with
          | zero =>
            intro v_416 hd hg hI H locs hP hS ls hl
            refine lv_iload hC.1 hC.2.1 dL_prints_416 (lv_at hl 6 rfl) ?_
            refine lv_iconst (v := 2) hC.1 hC.2.1 dL_prints_418 (by decide) ?_
            refine lv_icmp_le (tgt := 438) hC.1 hC.2.1 dL_prints_419 (by decide) (fun k419 => ?_) (fun k419 => ?_)
            · exact A416 y6_416 y8_416 y9_416 v_416 hg hI _ _ hP hS _ (lv_sub hl [0, 1, 2, 3, 4, 5] rfl)
            · exact absurd (by decide) k419
          | succ n416 ih =>
            intro v_416 hd hg hI H locs hP hS ls hl
            have hg : fL_prints v x6 = (tL_prints_416 v x6 y6_416 y8_416 y9_416 (lpD n416 (bL_prints_416 v x6 y6_416 y8_416 y9_416) (bL_prints_416 v x6 y6_416 y8_416 y9_416 (n416 + 1) v_416))) := hg
            refine lv_iload hC.1 hC.2.1 dL_prints_416 (lv_at hl 6 rfl) ?_
            refine lv_iconst (v := 2) hC.1 hC.2.1 dL_prints_418 (by decide) ?_
            refine lv_icmp_le (tgt := 438) hC.1 hC.2.1 dL_prints_419 (by decide) (fun k419 => ?_) (fun k419 => ?_)
            · exact absurd k419 (nI_ge (a := 2) (by omega) (by omega))
            · refine lv_aload_n hC.1 hC.2.1 dL_prints_422 rfl (lv_at hl 0 rfl) ?_
              refine lv_iload hC.1 hC.2.1 dL_prints_423 (lv_at hl 6 rfl) ?_
              refine lv_aload_n hC.1 hC.2.1 dL_prints_425 rfl (lv_at hl 0 rfl) ?_
              refine lv_iload hC.1 hC.2.1 dL_prints_426 (lv_at hl 6 rfl) ?_
              refine lv_iconst (v := 3) hC.1 hC.2.1 dL_prints_428 (by decide) ?_
              refine lv_isub hC.1 hC.2.1 dL_prints_429 ?_
              refine iald_k hC (hKN.go hAL hS) hP 3 rfl (n := 36) (f := (v_416 3)) (((n416 + 1) + 2) - 3) (nE_sub (rfl) (rfl) (by omega)) (by omega) (by first | decide | omega) dL_prints_430 ?_
              refine lv_topi (fun w_31 ew_31 => ?_)
              refine iast_k hC (hKN.go hAL hS) hP (lwD_D hq v_416) hS 3 rfl (n := 36) (f := (v_416 3)) ((n416 + 1) + 2) (rfl) (by omega) (by first | decide | omega) dL_prints_431 (fun H locs hq_32 hS => ?_)
              have hP : PW G (lwW G q (mkL (v_416 0) (v_416 1) (v_416 2) (upd (v_416 3) ((n416 + 1) + 2) w_31) (v_416 4))) H := hq_32
              have hI : Lgs (mkL (v_416 0) (v_416 1) (v_416 2) (upd (v_416 3) ((n416 + 1) + 2) w_31) (v_416 4)) := hI
              refine lv_iinc (v := nI (n416 + 2)) (lv' := [(10, .int (nI (n416 + 2))), (3, .ref (q 3)), (4, .ref (q 4)), (5, .int x6), (6, .int y6_416), (8, .int y8_416), (9, .int y9_416)]) hC.1 hC.2.1 dL_prints_432 hl (k := 6) rfl (pk_m1 (n416 + 2)) (by decide) rfl (fun ls hl => ?_)
              refine lv_goto (tgt := 416) hC.1 hC.2.1 dL_prints_435 (by decide) ?_
              have e_33 : bL_prints_416 v x6 y6_416 y8_416 y9_416 (n416 + 1) v_416 = mkL (v_416 0) (v_416 1) (v_416 2) (upd (v_416 3) ((n416 + 1) + 2) w_31) (v_416 4) := by have q_ := ew_31.symm; subst q_; delta bL_prints_416; exact rfl
              have hg : fL_prints v x6 = (tL_prints_416 v x6 y6_416 y8_416 y9_416 (lpD n416 (bL_prints_416 v x6 y6_416 y8_416 y9_416) (mkL (v_416 0) (v_416 1) (v_416 2) (upd (v_416 3) ((n416 + 1) + 2) w_31) (v_416 4)))) := by have e2 := congrArg (fun z => (tL_prints_416 v x6 y6_416 y8_416 y9_416 (lpD n416 (bL_prints_416 v x6 y6_416 y8_416 y9_416) z))) e_33; exact hg.trans e2
              exact ih (mkL (v_416 0) (v_416 1) (v_416 2) (upd (v_416 3) ((n416 + 1) + 2) w_31) (v_416 4)) (by omega) hg hI _ _ hP hS _ (lv_sub hl [1, 2, 3, 4, 5, 6, 0] rfl)
        have e_34 : tL_prints_79 v x6 y6_79 y8_79 (y9_79, v_79) = tL_prints_416 v x6 y6_79 y8_79 y9_79 (lpD 33 (bL_prints_416 v x6 y6_79 y8_79 y9_79) r_4) := by have q_ := er_4.symm; subst q_; delta tL_prints_79; exact rfl
        have hg : fL_prints v x6 = (tL_prints_416 v x6 y6_79 y8_79 y9_79 (lpD 33 (bL_prints_416 v x6 y6_79 y8_79 y9_79) r_4)) := by have e2 := congrArg (fun z => z) e_34; exact hg.trans e2
        exact L416 y6_79 y8_79 y9_79 33 r_4 (Nat.le_refl _) hg hI _ _ hP hS _ (lv_sub hl [2, 3, 4, 5, 6, 7, 0] rfl)
      have L79 : ∀ (y6_79 : Int32) (y8_79 : Int32), ∀ (n79 d79 : Nat), ∀ (y9_79 : Int32) (v_79 : SV), d79 + n79 = y8_79.toNatClampNeg → fL_prints v x6 = (tL_prints_79 v x6 y6_79 y8_79 (lpF n79 d79 (bL_prints_79 v x6 y6_79 y8_79) (y9_79, v_79))) → Lgs v_79 → ∀ (H : Heap) (locs : List Loc), PW G (lwW G q v_79) H → va_S (lwA q) s.heap H locs → ∀ (ls : Array Slot), lv_has ls 15 [(0, .ref (q 0)), (1, .ref (q 1)), (2, .ref (q 2)), (3, .ref (q 3)), (4, .ref (q 4)), (5, .int x6), (6, .int y6_79), (8, .int y8_79), (9, .int y9_79), (10, .int (nI d79))] → W p l e ({ frames := 2, cells := 0, slots := 0, locals := 47 }) s m ([.ref (q 0), .ref (q 1), .ref (q 2), .ref (q 3), .ref (q 4), .int x6] : List Value).toArray below meth c H locs 0 0 (MQ below (QE (none) (fun H => PW G (lwW G q (fL_prints v x6)) H) (lwA q)) ([.ref (q 0), .ref (q 1), .ref (q 2), .ref (q 3), .ref (q 4), .int x6] : List Value).toArray s 0 0 (lwA q)) (F0 m 79 ls []) := by
        intro y6_79 y8_79
        intro n79
        induction n79 with
        | zero =>
          intro d79 y9_79 v_79 hd hg hI H locs hP hS ls hl
          refine lv_iload hC.1 hC.2.1 dL_prints_79 (lv_at hl 9 rfl) ?_
          refine lv_iload hC.1 hC.2.1 dL_prints_81 (lv_at hl 7 rfl) ?_
          refine lv_icmp_ge (tgt := 401) hC.1 hC.2.1 dL_prints_83 (by decide) (fun k83 => ?_) (fun k83 => ?_)
          · exact A79 y6_79 y8_79 y9_79 v_79 hg hI _ _ hP hS _ (lv_sub hl [0, 3, 4, 5, 6, 7, 8] rfl)
          · exact absurd (cl_le (by omega) (by have := cl_lt y8_79; omega)) k83
        | succ n79 ih =>
          intro d79 y9_79 v_79 hd hg hI H locs hP hS ls hl
          have hg : fL_prints v x6 = (tL_prints_79 v x6 y6_79 y8_79 (lpF n79 (d79 + 1) (bL_prints_79 v x6 y6_79 y8_79) (bL_prints_79 v x6 y6_79 y8_79 d79 (y9_79, v_79)))) := hg
          refine lv_iload hC.1 hC.2.1 dL_prints_79 (lv_at hl 9 rfl) ?_
          refine lv_iload hC.1 hC.2.1 dL_prints_81 (lv_at hl 7 rfl) ?_
          refine lv_icmp_ge (tgt := 401) hC.1 hC.2.1 dL_prints_83 (by decide) (fun k83 => ?_) (fun k83 => ?_)
          · exact absurd k83 (cl_nle (by omega))
          · refine lv_iconst (v := 1) hC.1 hC.2.1 dL_prints_86 (by decide) ?_
            refine lv_istore (lv' := [(11, .int 1), (0, .ref (q 0)), (1, .ref (q 1)), (2, .ref (q 2)), (3, .ref (q 3)), (4, .ref (q 4)), (5, .int x6), (6, .int y6_79), (8, .int y8_79), (9, .int y9_79), (10, .int (nI d79))]) hC.1 hC.2.1 dL_prints_87 hl (by decide) rfl (fun ls hl => ?_)
            have A89 : ∀ (y9_89 : Int32), ∀ (y11_89 : Int32) (v_89 : SV), fL_prints v x6 = (tL_prints_79 v x6 y6_79 y8_79 (lpF n79 (d79 + 1) (bL_prints_79 v x6 y6_79 y8_79) (tL_prints_89 v x6 y6_79 y8_79 d79 y9_89 (y11_89, v_89)))) → Lgs v_89 → ∀ (H : Heap) (locs : List Loc), PW G (lwW G q v_89) H → va_S (lwA q) s.heap H locs → ∀ (ls : Array Slot), lv_has ls 15 [(0, .ref (q 0)), (1, .ref (q 1)), (2, .ref (q 2)), (3, .ref (q 3)), (4, .ref (q 4)), (5, .int x6), (6, .int y6_79), (8, .int y8_79), (9, .int y9_89), (10, .int (nI d79))] → W p l e ({ frames := 2, cells := 0, slots := 0, locals := 47 }) s m ([.ref (q 0), .ref (q 1), .ref (q 2), .ref (q 3), .ref (q 4), .int x6] : List Value).toArray below meth c H locs 0 0 (MQ below (QE (none) (fun H => PW G (lwW G q (fL_prints v x6)) H) (lwA q)) ([.ref (q 0), .ref (q 1), .ref (q 2), .ref (q 3), .ref (q 4), .int x6] : List Value).toArray s 0 0 (lwA q)) (F0 m 212 ls []) := by
              intro y9_89 y11_89 v_89 hg hI H locs hP hS ls hl
              refine lv_iconst (v := 0) hC.1 hC.2.1 dL_prints_212 (by decide) ?_
              refine lv_istore (lv' := [(12, .int 0), (0, .ref (q 0)), (1, .ref (q 1)), (2, .ref (q 2)), (3, .ref (q 3)), (4, .ref (q 4)), (5, .int x6), (6, .int y6_79), (8, .int y8_79), (9, .int y9_89), (10, .int (nI d79))]) hC.1 hC.2.1 dL_prints_213 hl (by decide) rfl (fun ls hl => ?_)
              refine lv_iconst (v := 0) hC.1 hC.2.1 dL_prints_215 (by decide) ?_
              refine lv_istore (lv' := [(13, .int 0), (12, .int 0), (0, .ref (q 0)), (1, .ref (q 1)), (2, .ref (q 2)), (3, .ref (q 3)), (4, .ref (q 4)), (5, .int x6), (6, .int y6_79), (8, .int y8_79), (9, .int y9_89), (10, .int (nI d79))]) hC.1 hC.2.1 dL_prints_216 hl (by decide) rfl (fun ls hl => ?_)
              have A218 : ∀ (y9_218 : Int32) (y12_218 : Int32) (v_218 : SV), fL_prints v x6 = (tL_prints_79 v x6 y6_79 y8_79 (lpF n79 (d79 + 1) (bL_prints_79 v x6 y6_79 y8_79) (tL_prints_218 v x6 y6_79 y8_79 d79 (y9_218, y12_218, v_218)))) → Lgs v_218 → ∀ (H : Heap) (locs : List Loc), PW G (lwW G q v_218) H → va_S (lwA q) s.heap H locs → ∀ (ls : Array Slot), lv_has ls 15 [(0, .ref (q 0)), (1, .ref (q 1)), (2, .ref (q 2)), (3, .ref (q 3)), (4, .ref (q 4)), (5, .int x6), (6, .int y6_79), (8, .int y8_79), (9, .int y9_218), (10, .int (nI d79)), (12, .int y12_218)] → W p l e ({ frames := 2, cells := 0, slots := 0, locals := 47 }) s m ([.ref (q 0), .ref (q 1), .ref (q 2), .ref (q 3), .ref (q 4), .int x6] : List Value).toArray below meth c H locs 0 0 (MQ below (QE (none) (fun H => PW G (lwW G q (fL_prints v x6)) H) (lwA q)) ([.ref (q 0), .ref (q 1), .ref (q 2), .ref (q 3), .ref (q 4), .int x6] : List Value).toArray s 0 0 (lwA q)) (F0 m 382 ls []) := by
                intro  y9_218 y12_218 v_218 hg hI H locs hP hS ls hl
                refine lv_aload_n hC.1 hC.2.1 dL_prints_382 rfl (lv_at hl 0 rfl) ?_
                refine lv_aload hC.1 hC.2.1 dL_prints_383 (lv_at hl 4 rfl) ?_
                refine lv_iload hC.1 hC.2.1 dL_prints_385 (lv_at hl 10 rfl) ?_
                refine lv_bipush (v := 10) hC.1 hC.2.1 dL_prints_387 (by decide +kernel) ?_
                refine lv_idiv hC.1 hC.2.1 dL_prints_389 (by decide) ?_
                refine lv_iconst (v := 1) hC.1 hC.2.1 dL_prints_390 (by decide) ?_
                refine lv_iadd hC.1 hC.2.1 dL_prints_391 ?_
                refine runE (rS (B := fun U H => PW G (lwW G q v_218) H) (As := [.ref (q 0), .ref (q 4), .int ((y12_218 / 10) + 1)]) (rest := []) hC mwL_passes (c_L_passes l G q v_218 ((y12_218 / 10) + 1) hq hI) wd_440 wd_439 ⟨rfl, rfl⟩ ⟨Nat.le_of_ble_eq_true rfl, Nat.le_of_ble_eq_true rfl⟩ (stb_h (fun H => PW G (lwW G q v_218) H)) (hKN.go hAL hS) hP rfl hl.1 rfl (Nat.le_of_ble_eq_true rfl) dL_prints_392 ⟨Nat.zero_le _, Nat.zero_le _⟩) hS (fun _ h => h) (fun _ h => h) (fun H locs hq_35 _ _ hS => ?_)
                have hP : PW G (lwW G q (fL_passes v_218 ((y12_218 / 10) + 1))) H := hq_35
                obtain ⟨r_36, er_36⟩ : ∃ z, z = fL_passes v_218 ((y12_218 / 10) + 1) := ⟨_, rfl⟩
                rw [← er_36] at hP
                have hI : Lgs r_36 := by rw [er_36]; exact I_L_passes v_218 ((y12_218 / 10) + 1) hI
                refine lv_iinc (v := nI (d79 + 1)) (lv' := [(10, .int (nI (d79 + 1))), (0, .ref (q 0)), (1, .ref (q 1)), (2, .ref (q 2)), (3, .ref (q 3)), (4, .ref (q 4)), (5, .int x6), (6, .int y6_79), (8, .int y8_79), (9, .int y9_218), (12, .int y12_218)]) hC.1 hC.2.1 dL_prints_395 hl (k := 9) rfl (nI_1 _) (by decide) rfl (fun ls hl => ?_)
                refine lv_goto (tgt := 79) hC.1 hC.2.1 dL_prints_398 (by decide) ?_
                have e_37 : tL_prints_218 v x6 y6_79 y8_79 d79 (y9_218, y12_218, v_218) = (y9_218, r_36) := by have q_ := er_36.symm; subst q_; delta tL_prints_218; exact rfl
                have hg : fL_prints v x6 = (tL_prints_79 v x6 y6_79 y8_79 (lpF n79 (d79 + 1) (bL_prints_79 v x6 y6_79 y8_79) (y9_218, r_36))) := by have e2 := congrArg (fun z => (tL_prints_79 v x6 y6_79 y8_79 (lpF n79 (d79 + 1) (bL_prints_79 v x6 y6_79 y8_79) z))) e_37; exact hg.trans e2
                exact ih (d79 + 1) y9_218 r_36 (by omega) hg hI _ _ hP hS _ (lv_sub hl [1, 2, 3, 4, 5, 6, 7, 8, 9, 0] rfl)
              have L218 : ∀ (n218 d218 : Nat), ∀ (y9_218 : Int32) (y12_218 : Int32) (v_218 : SV), d218 + n218 = 24 → fL_prints v x6 = (tL_prints_79 v x6 y6_79 y8_79 (lpF n79 (d79 + 1) (bL_prints_79 v x6 y6_79 y8_79) (tL_prints_218 v x6 y6_79 y8_79 d79 (lpF n218 d218 (bL_prints_218 v x6 y6_79 y8_79 d79) (y9_218, y12_218, v_218))))) → Lgs v_218 → ∀ (H : Heap) (locs : List Loc), PW G (lwW G q v_218) H → va_S (lwA q) s.heap H locs → ∀ (ls : Array Slot), lv_has ls 15 [(0, .ref (q 0)), (1, .ref (q 1)), (2, .ref (q 2)), (3, .ref (q 3)), (4, .ref (q 4)), (5, .int x6), (6, .int y6_79), (8, .int y8_79), (9, .int y9_218), (10, .int (nI d79)), (12, .int y12_218), (13, .int (nI d218))] → W p l e ({ frames := 2, cells := 0, slots := 0, locals := 47 }) s m ([.ref (q 0), .ref (q 1), .ref (q 2), .ref (q 3), .ref (q 4), .int x6] : List Value).toArray below meth c H locs 0 0 (MQ below (QE (none) (fun H => PW G (lwW G q (fL_prints v x6)) H) (lwA q)) ([.ref (q 0), .ref (q 1), .ref (q 2), .ref (q 3), .ref (q 4), .int x6] : List Value).toArray s 0 0 (lwA q)) (F0 m 218 ls []) := by
                intro n218
                induction n218 with
                | zero =>
                  intro d218 y9_218 y12_218 v_218 hd hg hI H locs hP hS ls hl
                  refine lv_iload hC.1 hC.2.1 dL_prints_218 (lv_at hl 11 rfl) ?_
                  refine lv_bipush (v := 24) hC.1 hC.2.1 dL_prints_220 (by decide +kernel) ?_
                  refine lv_icmp_ge (tgt := 382) hC.1 hC.2.1 dL_prints_222 (by decide) (fun k222 => ?_) (fun k222 => ?_)
                  · exact A218  y9_218 y12_218 v_218 hg hI _ _ hP hS _ (lv_sub hl [0, 1, 2, 3, 4, 5, 6, 7, 8, 9, 10] rfl)
                  · exact absurd (nI_le (a := 24) (b := d218) (by omega) (by omega)) k222
                | succ n218 ih =>
                  intro d218 y9_218 y12_218 v_218 hd hg hI H locs hP hS ls hl
                  have hg : fL_prints v x6 = (tL_prints_79 v x6 y6_79 y8_79 (lpF n79 (d79 + 1) (bL_prints_79 v x6 y6_79 y8_79) (tL_prints_218 v x6 y6_79 y8_79 d79 (lpF n218 (d218 + 1) (bL_prints_218 v x6 y6_79 y8_79 d79) (bL_prints_218 v x6 y6_79 y8_79 d79 d218 (y9_218, y12_218, v_218)))))) := hg
                  refine lv_iload hC.1 hC.2.1 dL_prints_218 (lv_at hl 11 rfl) ?_
                  refine lv_bipush (v := 24) hC.1 hC.2.1 dL_prints_220 (by decide +kernel) ?_
                  refine lv_icmp_ge (tgt := 382) hC.1 hC.2.1 dL_prints_222 (by decide) (fun k222 => ?_) (fun k222 => ?_)
                  · exact absurd k222 (nI_ge (a := d218) (b := 24) (by omega) (by omega))
                  · refine lv_iload hC.1 hC.2.1 dL_prints_225 (lv_at hl 5 rfl) ?_
                    refine lv_iload hC.1 hC.2.1 dL_prints_227 (lv_at hl 11 rfl) ?_
                    refine lv_ishr hC.1 hC.2.1 dL_prints_229 ?_
                    refine lv_iconst (v := 1) hC.1 hC.2.1 dL_prints_230 (by decide) ?_
                    refine lv_iand hC.1 hC.2.1 dL_prints_231 ?_
                    refine lv_iconst (v := 1) hC.1 hC.2.1 dL_prints_232 (by decide) ?_
                    refine lv_icmp_ne (tgt := 376) hC.1 hC.2.1 dL_prints_233 (by decide) (fun k233 => ?_) (fun k233 => ?_)
                    · refine lv_iinc (v := nI (d218 + 1)) (lv' := [(13, .int (nI (d218 + 1))), (0, .ref (q 0)), (1, .ref (q 1)), (2, .ref (q 2)), (3, .ref (q 3)), (4, .ref (q 4)), (5, .int x6), (6, .int y6_79), (8, .int y8_79), (9, .int y9_218), (10, .int (nI d79)), (12, .int y12_218)]) hC.1 hC.2.1 dL_prints_376 hl (k := 11) rfl (nI_1 _) (by decide) rfl (fun ls hl => ?_)
                      refine lv_goto (tgt := 218) hC.1 hC.2.1 dL_prints_379 (by decide) ?_
                      have e_38 : bL_prints_218 v x6 y6_79 y8_79 d79 d218 (y9_218, y12_218, v_218) = (y9_218, y12_218, v_218) := by delta bL_prints_218; exact Eq.trans (if_neg k233) rfl
                      have hg : fL_prints v x6 = (tL_prints_79 v x6 y6_79 y8_79 (lpF n79 (d79 + 1) (bL_prints_79 v x6 y6_79 y8_79) (tL_prints_218 v x6 y6_79 y8_79 d79 (lpF n218 (d218 + 1) (bL_prints_218 v x6 y6_79 y8_79 d79) (y9_218, y12_218, v_218))))) := by have e2 := congrArg (fun z => (tL_prints_79 v x6 y6_79 y8_79 (lpF n79 (d79 + 1) (bL_prints_79 v x6 y6_79 y8_79) (tL_prints_218 v x6 y6_79 y8_79 d79 (lpF n218 (d218 + 1) (bL_prints_218 v x6 y6_79 y8_79 d79) z))))) e_38; exact hg.trans e2
                      exact ih (d218 + 1) y9_218 y12_218 v_218 (by omega) hg hI _ _ hP hS _ (lv_sub hl [1, 2, 3, 4, 5, 6, 7, 8, 9, 10, 11, 0] rfl)
                    · refine lv_aload hC.1 hC.2.1 dL_prints_236 (lv_at hl 4 rfl) ?_
                      refine lv_iload hC.1 hC.2.1 dL_prints_238 (lv_at hl 5 rfl) ?_
                      refine lv_iload hC.1 hC.2.1 dL_prints_240 (lv_at hl 11 rfl) ?_
                      refine runP (rS (B := fun U H => PW G (lwW G q v_218) H) (As := [.ref (q 4), .int x6, .int (nI d218)]) (rest := []) hC mwL_partOf (c_L_partOf l G q v_218 x6 (nI d218) hI k233) wd_437 wd_436 ⟨rfl, rfl⟩ ⟨Nat.le_of_ble_eq_true rfl, Nat.le_of_ble_eq_true rfl⟩ (stb_h (fun H => PW G (lwW G q v_218) H)) (hKN.go hAL hS) hP rfl hl.1 rfl (Nat.le_of_ble_eq_true rfl) dL_prints_242 ⟨Nat.zero_le _, Nat.zero_le _⟩) ?_
                      refine lv_iload hC.1 hC.2.1 dL_prints_245 (lv_at hl 9 rfl) ?_
                      refine lv_icmp_ne (tgt := 376) hC.1 hC.2.1 dL_prints_247 (by decide) (fun k247 => ?_) (fun k247 => ?_)
                      · refine lv_iinc (v := nI (d218 + 1)) (lv' := [(13, .int (nI (d218 + 1))), (0, .ref (q 0)), (1, .ref (q 1)), (2, .ref (q 2)), (3, .ref (q 3)), (4, .ref (q 4)), (5, .int x6), (6, .int y6_79), (8, .int y8_79), (9, .int y9_218), (10, .int (nI d79)), (12, .int y12_218)]) hC.1 hC.2.1 dL_prints_376 hl (k := 11) rfl (nI_1 _) (by decide) rfl (fun ls hl => ?_)
                        refine lv_goto (tgt := 218) hC.1 hC.2.1 dL_prints_379 (by decide) ?_
                        have e_39 : bL_prints_218 v x6 y6_79 y8_79 d79 d218 (y9_218, y12_218, v_218) = (y9_218, y12_218, v_218) := by delta bL_prints_218; exact Eq.trans (if_pos k233) (Eq.trans (if_neg k247) rfl)
                        have hg : fL_prints v x6 = (tL_prints_79 v x6 y6_79 y8_79 (lpF n79 (d79 + 1) (bL_prints_79 v x6 y6_79 y8_79) (tL_prints_218 v x6 y6_79 y8_79 d79 (lpF n218 (d218 + 1) (bL_prints_218 v x6 y6_79 y8_79 d79) (y9_218, y12_218, v_218))))) := by have e2 := congrArg (fun z => (tL_prints_79 v x6 y6_79 y8_79 (lpF n79 (d79 + 1) (bL_prints_79 v x6 y6_79 y8_79) (tL_prints_218 v x6 y6_79 y8_79 d79 (lpF n218 (d218 + 1) (bL_prints_218 v x6 y6_79 y8_79 d79) z))))) e_39; exact hg.trans e2
                        exact ih (d218 + 1) y9_218 y12_218 v_218 (by omega) hg hI _ _ hP hS _ (lv_sub hl [1, 2, 3, 4, 5, 6, 7, 8, 9, 10, 11, 0] rfl)
                      · refine lv_aload hC.1 hC.2.1 dL_prints_250 (lv_at hl 4 rfl) ?_
                        refine lv_iload hC.1 hC.2.1 dL_prints_252 (lv_at hl 5 rfl) ?_
                        refine lv_iload hC.1 hC.2.1 dL_prints_254 (lv_at hl 11 rfl) ?_
                        refine lv_aload hC.1 hC.2.1 dL_prints_256 (lv_at hl 4 rfl) ?_
                        refine lv_iconst (v := 0) hC.1 hC.2.1 dL_prints_258 (by decide) ?_
                        refine iald_k hC (hKN.go hAL hS) hP 4 rfl (n := 21) (f := (v_218 4)) 0 (rfl) (by omega) (by first | decide | omega) dL_prints_259 ?_
                        refine runP (rS (B := fun U H => PW G (lwW G q v_218) H) (As := [.ref (q 4), .int x6, .int (nI d218), .int ((v_218 4) 0)]) (rest := []) hC mwL_pulse (c_L_pulse l G q v_218 x6 (nI d218) ((v_218 4) 0)) wd_226 wd_225 ⟨rfl, rfl⟩ ⟨Nat.le_of_ble_eq_true rfl, Nat.le_of_ble_eq_true rfl⟩ (stb_h (fun H => PW G (lwW G q v_218) H)) (hKN.go hAL hS) hP rfl hl.1 rfl (Nat.le_of_ble_eq_true rfl) dL_prints_260 ⟨Nat.zero_le _, Nat.zero_le _⟩) ?_
                        refine lv_istore (lv' := [(14, .int (fL_pulse v_218 x6 (nI d218) ((v_218 4) 0))), (0, .ref (q 0)), (1, .ref (q 1)), (2, .ref (q 2)), (3, .ref (q 3)), (4, .ref (q 4)), (5, .int x6), (6, .int y6_79), (8, .int y8_79), (9, .int y9_218), (10, .int (nI d79)), (12, .int y12_218), (13, .int (nI d218))]) hC.1 hC.2.1 dL_prints_263 hl (by decide) rfl (fun ls hl => ?_)
                        refine lv_iload hC.1 hC.2.1 dL_prints_265 (lv_at hl 0 rfl) ?_
                        refine lv_iload hC.1 hC.2.1 dL_prints_267 (lv_at hl 11 rfl) ?_
                        have J279 : ∀ (y9_279 : Int32) (y14_279 : Int32) (z0_279 : Int32) (v_279 : SV), fL_prints v x6 = (tL_prints_79 v x6 y6_79 y8_79 (lpF n79 (d79 + 1) (bL_prints_79 v x6 y6_79 y8_79) (tL_prints_218 v x6 y6_79 y8_79 d79 (lpF n218 (d218 + 1) (bL_prints_218 v x6 y6_79 y8_79 d79) (tL_prints_J279 v x6 y6_79 y8_79 d79 d218 y9_279 y14_279 z0_279 v_279))))) → Lgs v_279 → ∀ (H : Heap) (locs : List Loc), PW G (lwW G q v_279) H → va_S (lwA q) s.heap H locs → ∀ (ls : Array Slot), lv_has ls 15 [(0, .ref (q 0)), (1, .ref (q 1)), (2, .ref (q 2)), (3, .ref (q 3)), (4, .ref (q 4)), (5, .int x6), (6, .int y6_79), (8, .int y8_79), (9, .int y9_279), (10, .int (nI d79)), (13, .int (nI d218)), (14, .int y14_279)] → W p l e ({ frames := 2, cells := 0, slots := 0, locals := 47 }) s m ([.ref (q 0), .ref (q 1), .ref (q 2), .ref (q 3), .ref (q 4), .int x6] : List Value).toArray below meth c H locs 0 0 (MQ below (QE (none) (fun H => PW G (lwW G q (fL_prints v x6)) H) (lwA q)) ([.ref (q 0), .ref (q 1), .ref (q 2), .ref (q 3), .ref (q 4), .int x6] : List Value).toArray s 0 0 (lwA q)) (F0 m 279 ls [.int z0_279]) := by
                          intro y9_279 y14_279 z0_279 v_279 hg hI H locs hP hS ls hl
                          refine lv_istore (lv' := [(12, .int z0_279), (0, .ref (q 0)), (1, .ref (q 1)), (2, .ref (q 2)), (3, .ref (q 3)), (4, .ref (q 4)), (5, .int x6), (6, .int y6_79), (8, .int y8_79), (9, .int y9_279), (10, .int (nI d79)), (13, .int (nI d218)), (14, .int y14_279)]) hC.1 hC.2.1 dL_prints_279 hl (by decide) rfl (fun ls hl => ?_)
                          refine lv_aload_n hC.1 hC.2.1 dL_prints_281 rfl (lv_at hl 1 rfl) ?_
                          refine lv_iload hC.1 hC.2.1 dL_prints_282 (lv_at hl 11 rfl) ?_
                          refine lv_dup2_11 hC.1 hC.2.1 dL_prints_284 rfl rfl ?_
                          refine iald_k hC (hKN.go hAL hS) hP 0 rfl (n := 24) (f := (v_279 0)) d218 (rfl) (by omega) (by first | decide | omega) dL_prints_285 ?_
                          refine lv_iload hC.1 hC.2.1 dL_prints_286 (lv_at hl 12 rfl) ?_
                          refine lv_iadd hC.1 hC.2.1 dL_prints_288 ?_
                          refine lv_topi (fun w_40 ew_40 => ?_)
                          refine iast_k hC (hKN.go hAL hS) hP (lwD_D hq v_279) hS 0 rfl (n := 24) (f := (v_279 0)) d218 (rfl) (by omega) (by first | decide | omega) dL_prints_289 (fun H locs hq_41 hS => ?_)
                          have hP : PW G (lwW G q (mkL (upd (v_279 0) d218 w_40) (v_279 1) (v_279 2) (v_279 3) (v_279 4))) H := hq_41
                          have hI : Lgs (mkL (upd (v_279 0) d218 w_40) (v_279 1) (v_279 2) (v_279 3) (v_279 4)) := hI
                          refine lv_aload hC.1 hC.2.1 dL_prints_290 (lv_at hl 5 rfl) ?_
                          refine lv_bipush (v := 20) hC.1 hC.2.1 dL_prints_292 (by decide +kernel) ?_
                          refine lv_aload_n hC.1 hC.2.1 dL_prints_294 rfl (lv_at hl 1 rfl) ?_
                          refine lv_iload hC.1 hC.2.1 dL_prints_295 (lv_at hl 11 rfl) ?_
                          refine iald_k hC (hKN.go hAL hS) hP 0 rfl (n := 24) (f := (upd (v_279 0) d218 w_40)) d218 (rfl) (by omega) (by first | decide | omega) dL_prints_297 ?_
                          refine lv_aload hC.1 hC.2.1 dL_prints_298 (lv_at hl 5 rfl) ?_
                          refine lv_bipush (v := 20) hC.1 hC.2.1 dL_prints_300 (by decide +kernel) ?_
                          refine iald_k hC (hKN.go hAL hS) hP 4 rfl (n := 21) (f := (v_279 4)) 20 (rfl) (by omega) (by first | decide | omega) dL_prints_302 ?_
                          have J318 : ∀ (y9_318 : Int32) (y12_318 : Int32) (z2_318 : Int32) (v_318 : SV), fL_prints v x6 = (tL_prints_79 v x6 y6_79 y8_79 (lpF n79 (d79 + 1) (bL_prints_79 v x6 y6_79 y8_79) (tL_prints_218 v x6 y6_79 y8_79 d79 (lpF n218 (d218 + 1) (bL_prints_218 v x6 y6_79 y8_79 d79) (tL_prints_J318 v x6 y6_79 y8_79 d79 d218 y9_318 y12_318 z2_318 v_318))))) → Lgs v_318 → ∀ (H : Heap) (locs : List Loc), PW G (lwW G q v_318) H → va_S (lwA q) s.heap H locs → ∀ (ls : Array Slot), lv_has ls 15 [(0, .ref (q 0)), (1, .ref (q 1)), (2, .ref (q 2)), (3, .ref (q 3)), (4, .ref (q 4)), (5, .int x6), (6, .int y6_79), (8, .int y8_79), (9, .int y9_318), (10, .int (nI d79)), (12, .int y12_318), (13, .int (nI d218))] → W p l e ({ frames := 2, cells := 0, slots := 0, locals := 47 }) s m ([.ref (q 0), .ref (q 1), .ref (q 2), .ref (q 3), .ref (q 4), .int x6] : List Value).toArray below meth c H locs 0 0 (MQ below (QE (none) (fun H => PW G (lwW G q (fL_prints v x6)) H) (lwA q)) ([.ref (q 0), .ref (q 1), .ref (q 2), .ref (q 3), .ref (q 4), .int x6] : List Value).toArray s 0 0 (lwA q)) (F0 m 318 ls [.int z2_318, .int 20, .ref (q 4)]) := by
                            intro y9_318 y12_318 z2_318 v_318 hg hI H locs hP hS ls hl
                            refine iast_k hC (hKN.go hAL hS) hP (lwD_D hq v_318) hS 4 rfl (n := 21) (f := (v_318 4)) 20 (rfl) (by omega) (by first | decide | omega) dL_prints_318 (fun H locs hq_42 hS => ?_)
                            have hP : PW G (lwW G q (mkL (v_318 0) (v_318 1) (v_318 2) (v_318 3) (upd (v_318 4) 20 z2_318))) H := hq_42
                            have hI : Lgs (mkL (v_318 0) (v_318 1) (v_318 2) (v_318 3) (upd (v_318 4) 20 z2_318)) := (LSn_upd hI (by decide))
                            refine lv_iload hC.1 hC.2.1 dL_prints_319 (lv_at hl 8 rfl) ?_
                            refine lv_aload_n hC.1 hC.2.1 dL_prints_321 rfl (lv_at hl 0 rfl) ?_
                            refine lv_iload hC.1 hC.2.1 dL_prints_322 (lv_at hl 11 rfl) ?_
                            refine iald_k hC (hKN.go hAL hS) hP 0 rfl (n := 24) (f := (v_318 0)) d218 (rfl) (by omega) (by first | decide | omega) dL_prints_324 ?_
                            refine lv_aload hC.1 hC.2.1 dL_prints_325 (lv_at hl 4 rfl) ?_
                            refine runP (rS (B := fun U H => PW G (lwW G q (mkL (v_318 0) (v_318 1) (v_318 2) (v_318 3) (upd (v_318 4) 20 z2_318))) H) (As := [.ref (q 4)]) (rest := [.int ((v_318 0) d218), .int y9_318]) hC mwL_dark (c_L_dark l G q (mkL (v_318 0) (v_318 1) (v_318 2) (v_318 3) (upd (v_318 4) 20 z2_318))) wd_443 wd_442 ⟨rfl, rfl⟩ ⟨Nat.le_of_ble_eq_true rfl, Nat.le_of_ble_eq_true rfl⟩ (stb_h (fun H => PW G (lwW G q (mkL (v_318 0) (v_318 1) (v_318 2) (v_318 3) (upd (v_318 4) 20 z2_318))) H)) (hKN.go hAL hS) hP rfl hl.1 rfl (Nat.le_of_ble_eq_true rfl) dL_prints_327 ⟨Nat.zero_le _, Nat.zero_le _⟩) ?_
                            have J341 : ∀ (y12_341 : Int32) (z0_341 : Int32) (z1_341 : Int32) (v_341 : SV), fL_prints v x6 = (tL_prints_79 v x6 y6_79 y8_79 (lpF n79 (d79 + 1) (bL_prints_79 v x6 y6_79 y8_79) (tL_prints_218 v x6 y6_79 y8_79 d79 (lpF n218 (d218 + 1) (bL_prints_218 v x6 y6_79 y8_79 d79) (tL_prints_J341 v x6 y6_79 y8_79 d79 d218 y12_341 z0_341 z1_341 v_341))))) → Lgs v_341 → ∀ (H : Heap) (locs : List Loc), PW G (lwW G q v_341) H → va_S (lwA q) s.heap H locs → ∀ (ls : Array Slot), lv_has ls 15 [(0, .ref (q 0)), (1, .ref (q 1)), (2, .ref (q 2)), (3, .ref (q 3)), (4, .ref (q 4)), (5, .int x6), (6, .int y6_79), (8, .int y8_79), (10, .int (nI d79)), (12, .int y12_341), (13, .int (nI d218))] → W p l e ({ frames := 2, cells := 0, slots := 0, locals := 47 }) s m ([.ref (q 0), .ref (q 1), .ref (q 2), .ref (q 3), .ref (q 4), .int x6] : List Value).toArray below meth c H locs 0 0 (MQ below (QE (none) (fun H => PW G (lwW G q (fL_prints v x6)) H) (lwA q)) ([.ref (q 0), .ref (q 1), .ref (q 2), .ref (q 3), .ref (q 4), .int x6] : List Value).toArray s 0 0 (lwA q)) (F0 m 341 ls [.int z1_341, .int z0_341]) := by
                              intro y12_341 z0_341 z1_341 v_341 hg hI H locs hP hS ls hl
                              refine lv_ior hC.1 hC.2.1 dL_prints_341 ?_
                              refine lv_istore (lv' := [(9, .int (z0_341 ||| z1_341)), (0, .ref (q 0)), (1, .ref (q 1)), (2, .ref (q 2)), (3, .ref (q 3)), (4, .ref (q 4)), (5, .int x6), (6, .int y6_79), (8, .int y8_79), (10, .int (nI d79)), (12, .int y12_341), (13, .int (nI d218))]) hC.1 hC.2.1 dL_prints_342 hl (by decide) rfl (fun ls hl => ?_)
                              refine lv_aload_n hC.1 hC.2.1 dL_prints_344 rfl (lv_at hl 2 rfl) ?_
                              refine lv_iload hC.1 hC.2.1 dL_prints_345 (lv_at hl 11 rfl) ?_
                              refine lv_dup2_11 hC.1 hC.2.1 dL_prints_347 rfl rfl ?_
                              refine iald_k hC (hKN.go hAL hS) hP 1 rfl (n := 24) (f := (v_341 1)) d218 (rfl) (by omega) (by first | decide | omega) dL_prints_348 ?_
                              refine lv_iconst (v := 1) hC.1 hC.2.1 dL_prints_349 (by decide) ?_
                              refine lv_iadd hC.1 hC.2.1 dL_prints_350 ?_
                              refine lv_topi (fun w_43 ew_43 => ?_)
                              refine iast_k hC (hKN.go hAL hS) hP (lwD_D hq v_341) hS 1 rfl (n := 24) (f := (v_341 1)) d218 (rfl) (by omega) (by first | decide | omega) dL_prints_351 (fun H locs hq_44 hS => ?_)
                              have hP : PW G (lwW G q (mkL (v_341 0) (upd (v_341 1) d218 w_43) (v_341 2) (v_341 3) (v_341 4))) H := hq_44
                              have hI : Lgs (mkL (v_341 0) (upd (v_341 1) d218 w_43) (v_341 2) (v_341 3) (v_341 4)) := hI
                              refine lv_aload_n hC.1 hC.2.1 dL_prints_352 rfl (lv_at hl 3 rfl) ?_
                              refine lv_iload hC.1 hC.2.1 dL_prints_353 (lv_at hl 11 rfl) ?_
                              refine lv_dup2_11 hC.1 hC.2.1 dL_prints_355 rfl rfl ?_
                              refine iald_k hC (hKN.go hAL hS) hP 2 rfl (n := 24) (f := (v_341 2)) d218 (rfl) (by omega) (by first | decide | omega) dL_prints_356 ?_
                              refine lv_aload_n hC.1 hC.2.1 dL_prints_357 rfl (lv_at hl 1 rfl) ?_
                              refine lv_iload hC.1 hC.2.1 dL_prints_358 (lv_at hl 11 rfl) ?_
                              refine iald_k hC (hKN.go hAL hS) hP 0 rfl (n := 24) (f := (v_341 0)) d218 (rfl) (by omega) (by first | decide | omega) dL_prints_360 ?_
                              refine lv_aload hC.1 hC.2.1 dL_prints_361 (lv_at hl 5 rfl) ?_
                              refine runP (rS (B := fun U H => PW G (lwW G q (mkL (v_341 0) (upd (v_341 1) d218 w_43) (v_341 2) (v_341 3) (v_341 4))) H) (As := [.ref (q 4)]) (rest := [.int ((v_341 0) d218), .int ((v_341 2) d218), .int (nI d218), .ref (q 2)]) hC mwL_dark (c_L_dark l G q (mkL (v_341 0) (upd (v_341 1) d218 w_43) (v_341 2) (v_341 3) (v_341 4))) wd_443 wd_442 ⟨rfl, rfl⟩ ⟨Nat.le_of_ble_eq_true rfl, Nat.le_of_ble_eq_true rfl⟩ (stb_h (fun H => PW G (lwW G q (mkL (v_341 0) (upd (v_341 1) d218 w_43) (v_341 2) (v_341 3) (v_341 4))) H)) (hKN.go hAL hS) hP rfl hl.1 rfl (Nat.le_of_ble_eq_true rfl) dL_prints_363 ⟨Nat.zero_le _, Nat.zero_le _⟩) ?_
                              have J374 : ∀ (y9_374 : Int32) (y12_374 : Int32) (z2_374 : Int32) (z3_374 : Int32) (v_374 : SV), fL_prints v x6 = (tL_prints_79 v x6 y6_79 y8_79 (lpF n79 (d79 + 1) (bL_prints_79 v x6 y6_79 y8_79) (tL_prints_218 v x6 y6_79 y8_79 d79 (lpF n218 (d218 + 1) (bL_prints_218 v x6 y6_79 y8_79 d79) (tL_prints_J374 v x6 y6_79 y8_79 d79 d218 y9_374 y12_374 z2_374 z3_374 v_374))))) → Lgs v_374 → ∀ (H : Heap) (locs : List Loc), PW G (lwW G q v_374) H → va_S (lwA q) s.heap H locs → ∀ (ls : Array Slot), lv_has ls 15 [(0, .ref (q 0)), (1, .ref (q 1)), (2, .ref (q 2)), (3, .ref (q 3)), (4, .ref (q 4)), (5, .int x6), (6, .int y6_79), (8, .int y8_79), (9, .int y9_374), (10, .int (nI d79)), (12, .int y12_374), (13, .int (nI d218))] → W p l e ({ frames := 2, cells := 0, slots := 0, locals := 47 }) s m ([.ref (q 0), .ref (q 1), .ref (q 2), .ref (q 3), .ref (q 4), .int x6] : List Value).toArray below meth c H locs 0 0 (MQ below (QE (none) (fun H => PW G (lwW G q (fL_prints v x6)) H) (lwA q)) ([.ref (q 0), .ref (q 1), .ref (q 2), .ref (q 3), .ref (q 4), .int x6] : List Value).toArray s 0 0 (lwA q)) (F0 m 374 ls [.int z3_374, .int z2_374, .int (nI d218), .ref (q 2)]) := by
                                intro y9_374 y12_374 z2_374 z3_374 v_374 hg hI H locs hP hS ls hl
                                refine lv_iadd hC.1 hC.2.1 dL_prints_374 ?_
                                refine lv_topi (fun w_45 ew_45 => ?_)
                                refine iast_k hC (hKN.go hAL hS) hP (lwD_D hq v_374) hS 2 rfl (n := 24) (f := (v_374 2)) d218 (rfl) (by omega) (by first | decide | omega) dL_prints_375 (fun H locs hq_46 hS => ?_)
                                have hP : PW G (lwW G q (mkL (v_374 0) (v_374 1) (upd (v_374 2) d218 w_45) (v_374 3) (v_374 4))) H := hq_46
                                have hI : Lgs (mkL (v_374 0) (v_374 1) (upd (v_374 2) d218 w_45) (v_374 3) (v_374 4)) := hI
                                refine lv_iinc (v := nI (d218 + 1)) (lv' := [(13, .int (nI (d218 + 1))), (0, .ref (q 0)), (1, .ref (q 1)), (2, .ref (q 2)), (3, .ref (q 3)), (4, .ref (q 4)), (5, .int x6), (6, .int y6_79), (8, .int y8_79), (9, .int y9_374), (10, .int (nI d79)), (12, .int y12_374)]) hC.1 hC.2.1 dL_prints_376 hl (k := 11) rfl (nI_1 _) (by decide) rfl (fun ls hl => ?_)
                                refine lv_goto (tgt := 218) hC.1 hC.2.1 dL_prints_379 (by decide) ?_
                                have e_47 : tL_prints_J374 v x6 y6_79 y8_79 d79 d218 y9_374 y12_374 z2_374 z3_374 v_374 = (y9_374, y12_374, mkL (v_374 0) (v_374 1) (upd (v_374 2) d218 w_45) (v_374 3) (v_374 4)) := by have q_ := ew_45.symm; subst q_; delta tL_prints_J374; exact rfl
                                have hg : fL_prints v x6 = (tL_prints_79 v x6 y6_79 y8_79 (lpF n79 (d79 + 1) (bL_prints_79 v x6 y6_79 y8_79) (tL_prints_218 v x6 y6_79 y8_79 d79 (lpF n218 (d218 + 1) (bL_prints_218 v x6 y6_79 y8_79 d79) (y9_374, y12_374, mkL (v_374 0) (v_374 1) (upd (v_374 2) d218 w_45) (v_374 3) (v_374 4)))))) := by have e2 := congrArg (fun z => (tL_prints_79 v x6 y6_79 y8_79 (lpF n79 (d79 + 1) (bL_prints_79 v x6 y6_79 y8_79) (tL_prints_218 v x6 y6_79 y8_79 d79 (lpF n218 (d218 + 1) (bL_prints_218 v x6 y6_79 y8_79 d79) z))))) e_47; exact hg.trans e2
                                exact ih (d218 + 1) y9_374 y12_374 (mkL (v_374 0) (v_374 1) (upd (v_374 2) d218 w_45) (v_374 3) (v_374 4)) (by omega) hg hI _ _ hP hS _ (lv_sub hl [1, 2, 3, 4, 5, 6, 7, 8, 9, 10, 11, 0] rfl)
                              refine lv_icmp_ge (tgt := 373) hC.1 hC.2.1 dL_prints_366 (by decide) (fun k366 => ?_) (fun k366 => ?_)
                              · refine lv_iconst (v := 0) hC.1 hC.2.1 dL_prints_373 (by decide) ?_
                                have e_48 : tL_prints_J341 v x6 y6_79 y8_79 d79 d218 y12_341 z0_341 z1_341 v_341 = tL_prints_J374 v x6 y6_79 y8_79 d79 d218 (z0_341 ||| z1_341) y12_341 ((v_341 2) d218) 0 (mkL (v_341 0) (upd (v_341 1) d218 w_43) (v_341 2) (v_341 3) (v_341 4)) := by have q_ := ew_43.symm; subst q_; delta tL_prints_J341; exact Eq.trans (if_pos k366) rfl
                                have hg : fL_prints v x6 = (tL_prints_79 v x6 y6_79 y8_79 (lpF n79 (d79 + 1) (bL_prints_79 v x6 y6_79 y8_79) (tL_prints_218 v x6 y6_79 y8_79 d79 (lpF n218 (d218 + 1) (bL_prints_218 v x6 y6_79 y8_79 d79) (tL_prints_J374 v x6 y6_79 y8_79 d79 d218 (z0_341 ||| z1_341) y12_341 ((v_341 2) d218) 0 (mkL (v_341 0) (upd (v_341 1) d218 w_43) (v_341 2) (v_341 3) (v_341 4))))))) := by have e2 := congrArg (fun z => (tL_prints_79 v x6 y6_79 y8_79 (lpF n79 (d79 + 1) (bL_prints_79 v x6 y6_79 y8_79) (tL_prints_218 v x6 y6_79 y8_79 d79 (lpF n218 (d218 + 1) (bL_prints_218 v x6 y6_79 y8_79 d79) z))))) e_48; exact hg.trans e2
                                exact J374 (z0_341 ||| z1_341) y12_341 ((v_341 2) d218) 0 (mkL (v_341 0) (upd (v_341 1) d218 w_43) (v_341 2) (v_341 3) (v_341 4)) hg hI _ _ hP hS _ (lv_sub hl [1, 2, 3, 4, 5, 6, 7, 8, 0, 9, 10, 11] rfl)
                              · refine lv_iconst (v := 1) hC.1 hC.2.1 dL_prints_369 (by decide) ?_
                                refine lv_goto (tgt := 374) hC.1 hC.2.1 dL_prints_370 (by decide) ?_
                                have e_49 : tL_prints_J341 v x6 y6_79 y8_79 d79 d218 y12_341 z0_341 z1_341 v_341 = tL_prints_J374 v x6 y6_79 y8_79 d79 d218 (z0_341 ||| z1_341) y12_341 ((v_341 2) d218) 1 (mkL (v_341 0) (upd (v_341 1) d218 w_43) (v_341 2) (v_341 3) (v_341 4)) := by have q_ := ew_43.symm; subst q_; delta tL_prints_J341; exact Eq.trans (if_neg k366) rfl
                                have hg : fL_prints v x6 = (tL_prints_79 v x6 y6_79 y8_79 (lpF n79 (d79 + 1) (bL_prints_79 v x6 y6_79 y8_79) (tL_prints_218 v x6 y6_79 y8_79 d79 (lpF n218 (d218 + 1) (bL_prints_218 v x6 y6_79 y8_79 d79) (tL_prints_J374 v x6 y6_79 y8_79 d79 d218 (z0_341 ||| z1_341) y12_341 ((v_341 2) d218) 1 (mkL (v_341 0) (upd (v_341 1) d218 w_43) (v_341 2) (v_341 3) (v_341 4))))))) := by have e2 := congrArg (fun z => (tL_prints_79 v x6 y6_79 y8_79 (lpF n79 (d79 + 1) (bL_prints_79 v x6 y6_79 y8_79) (tL_prints_218 v x6 y6_79 y8_79 d79 (lpF n218 (d218 + 1) (bL_prints_218 v x6 y6_79 y8_79 d79) z))))) e_49; exact hg.trans e2
                                exact J374 (z0_341 ||| z1_341) y12_341 ((v_341 2) d218) 1 (mkL (v_341 0) (upd (v_341 1) d218 w_43) (v_341 2) (v_341 3) (v_341 4)) hg hI _ _ hP hS _ (lv_sub hl [1, 2, 3, 4, 5, 6, 7, 8, 0, 9, 10, 11] rfl)
                            refine lv_icmp_ge (tgt := 337) hC.1 hC.2.1 dL_prints_330 (by decide) (fun k330 => ?_) (fun k330 => ?_)
                            · refine lv_iconst (v := 1) hC.1 hC.2.1 dL_prints_337 (by decide) ?_
                              refine lv_iload hC.1 hC.2.1 dL_prints_338 (lv_at hl 11 rfl) ?_
                              refine lv_ishl hC.1 hC.2.1 dL_prints_340 ?_
                              have e_50 : tL_prints_J318 v x6 y6_79 y8_79 d79 d218 y9_318 y12_318 z2_318 v_318 = tL_prints_J341 v x6 y6_79 y8_79 d79 d218 y12_318 y9_318 (1 <<< ((nI d218) &&& 31)) (mkL (v_318 0) (v_318 1) (v_318 2) (v_318 3) (upd (v_318 4) 20 z2_318)) := by delta tL_prints_J318; exact Eq.trans (if_pos k330) rfl
                              have hg : fL_prints v x6 = (tL_prints_79 v x6 y6_79 y8_79 (lpF n79 (d79 + 1) (bL_prints_79 v x6 y6_79 y8_79) (tL_prints_218 v x6 y6_79 y8_79 d79 (lpF n218 (d218 + 1) (bL_prints_218 v x6 y6_79 y8_79 d79) (tL_prints_J341 v x6 y6_79 y8_79 d79 d218 y12_318 y9_318 (1 <<< ((nI d218) &&& 31)) (mkL (v_318 0) (v_318 1) (v_318 2) (v_318 3) (upd (v_318 4) 20 z2_318))))))) := by have e2 := congrArg (fun z => (tL_prints_79 v x6 y6_79 y8_79 (lpF n79 (d79 + 1) (bL_prints_79 v x6 y6_79 y8_79) (tL_prints_218 v x6 y6_79 y8_79 d79 (lpF n218 (d218 + 1) (bL_prints_218 v x6 y6_79 y8_79 d79) z))))) e_50; exact hg.trans e2
                              exact J341 y12_318 y9_318 (1 <<< ((nI d218) &&& 31)) (mkL (v_318 0) (v_318 1) (v_318 2) (v_318 3) (upd (v_318 4) 20 z2_318)) hg hI _ _ hP hS _ (lv_sub hl [0, 1, 2, 3, 4, 5, 6, 7, 9, 10, 11] rfl)
                            · refine lv_iconst (v := 0) hC.1 hC.2.1 dL_prints_333 (by decide) ?_
                              refine lv_goto (tgt := 341) hC.1 hC.2.1 dL_prints_334 (by decide) ?_
                              have e_51 : tL_prints_J318 v x6 y6_79 y8_79 d79 d218 y9_318 y12_318 z2_318 v_318 = tL_prints_J341 v x6 y6_79 y8_79 d79 d218 y12_318 y9_318 0 (mkL (v_318 0) (v_318 1) (v_318 2) (v_318 3) (upd (v_318 4) 20 z2_318)) := by delta tL_prints_J318; exact Eq.trans (if_neg k330) rfl
                              have hg : fL_prints v x6 = (tL_prints_79 v x6 y6_79 y8_79 (lpF n79 (d79 + 1) (bL_prints_79 v x6 y6_79 y8_79) (tL_prints_218 v x6 y6_79 y8_79 d79 (lpF n218 (d218 + 1) (bL_prints_218 v x6 y6_79 y8_79 d79) (tL_prints_J341 v x6 y6_79 y8_79 d79 d218 y12_318 y9_318 0 (mkL (v_318 0) (v_318 1) (v_318 2) (v_318 3) (upd (v_318 4) 20 z2_318))))))) := by have e2 := congrArg (fun z => (tL_prints_79 v x6 y6_79 y8_79 (lpF n79 (d79 + 1) (bL_prints_79 v x6 y6_79 y8_79) (tL_prints_218 v x6 y6_79 y8_79 d79 (lpF n218 (d218 + 1) (bL_prints_218 v x6 y6_79 y8_79 d79) z))))) e_51; exact hg.trans e2
                              exact J341 y12_318 y9_318 0 (mkL (v_318 0) (v_318 1) (v_318 2) (v_318 3) (upd (v_318 4) 20 z2_318)) hg hI _ _ hP hS _ (lv_sub hl [0, 1, 2, 3, 4, 5, 6, 7, 9, 10, 11] rfl)
                          refine lv_icmp_le (tgt := 313) hC.1 hC.2.1 dL_prints_303 (by decide) (fun k303 => ?_) (fun k303 => ?_)
                          · refine lv_aload hC.1 hC.2.1 dL_prints_313 (lv_at hl 5 rfl) ?_
                            refine lv_bipush (v := 20) hC.1 hC.2.1 dL_prints_315 (by decide +kernel) ?_
                            refine iald_k hC (hKN.go hAL hS) hP 4 rfl (n := 21) (f := (v_279 4)) 20 (rfl) (by omega) (by first | decide | omega) dL_prints_317 ?_
                            have e_52 : tL_prints_J279 v x6 y6_79 y8_79 d79 d218 y9_279 y14_279 z0_279 v_279 = tL_prints_J318 v x6 y6_79 y8_79 d79 d218 y9_279 z0_279 ((v_279 4) 20) (mkL (upd (v_279 0) d218 w_40) (v_279 1) (v_279 2) (v_279 3) (v_279 4)) := by have q_ := ew_40.symm; subst q_; delta tL_prints_J279; exact Eq.trans (if_pos k303) rfl
                            have hg : fL_prints v x6 = (tL_prints_79 v x6 y6_79 y8_79 (lpF n79 (d79 + 1) (bL_prints_79 v x6 y6_79 y8_79) (tL_prints_218 v x6 y6_79 y8_79 d79 (lpF n218 (d218 + 1) (bL_prints_218 v x6 y6_79 y8_79 d79) (tL_prints_J318 v x6 y6_79 y8_79 d79 d218 y9_279 z0_279 ((v_279 4) 20) (mkL (upd (v_279 0) d218 w_40) (v_279 1) (v_279 2) (v_279 3) (v_279 4))))))) := by have e2 := congrArg (fun z => (tL_prints_79 v x6 y6_79 y8_79 (lpF n79 (d79 + 1) (bL_prints_79 v x6 y6_79 y8_79) (tL_prints_218 v x6 y6_79 y8_79 d79 (lpF n218 (d218 + 1) (bL_prints_218 v x6 y6_79 y8_79 d79) z))))) e_52; exact hg.trans e2
                            exact J318 y9_279 z0_279 ((v_279 4) 20) (mkL (upd (v_279 0) d218 w_40) (v_279 1) (v_279 2) (v_279 3) (v_279 4)) hg hI _ _ hP hS _ (lv_sub hl [1, 2, 3, 4, 5, 6, 7, 8, 9, 10, 0, 11] rfl)
                          · refine lv_aload_n hC.1 hC.2.1 dL_prints_306 rfl (lv_at hl 1 rfl) ?_
                            refine lv_iload hC.1 hC.2.1 dL_prints_307 (lv_at hl 11 rfl) ?_
                            refine iald_k hC (hKN.go hAL hS) hP 0 rfl (n := 24) (f := (upd (v_279 0) d218 w_40)) d218 (rfl) (by omega) (by first | decide | omega) dL_prints_309 ?_
                            refine lv_goto (tgt := 318) hC.1 hC.2.1 dL_prints_310 (by decide) ?_
                            have e_53 : tL_prints_J279 v x6 y6_79 y8_79 d79 d218 y9_279 y14_279 z0_279 v_279 = tL_prints_J318 v x6 y6_79 y8_79 d79 d218 y9_279 z0_279 ((upd (v_279 0) d218 w_40) d218) (mkL (upd (v_279 0) d218 w_40) (v_279 1) (v_279 2) (v_279 3) (v_279 4)) := by have q_ := ew_40.symm; subst q_; delta tL_prints_J279; exact Eq.trans (if_neg k303) rfl
                            have hg : fL_prints v x6 = (tL_prints_79 v x6 y6_79 y8_79 (lpF n79 (d79 + 1) (bL_prints_79 v x6 y6_79 y8_79) (tL_prints_218 v x6 y6_79 y8_79 d79 (lpF n218 (d218 + 1) (bL_prints_218 v x6 y6_79 y8_79 d79) (tL_prints_J318 v x6 y6_79 y8_79 d79 d218 y9_279 z0_279 ((upd (v_279 0) d218 w_40) d218) (mkL (upd (v_279 0) d218 w_40) (v_279 1) (v_279 2) (v_279 3) (v_279 4))))))) := by have e2 := congrArg (fun z => (tL_prints_79 v x6 y6_79 y8_79 (lpF n79 (d79 + 1) (bL_prints_79 v x6 y6_79 y8_79) (tL_prints_218 v x6 y6_79 y8_79 d79 (lpF n218 (d218 + 1) (bL_prints_218 v x6 y6_79 y8_79 d79) z))))) e_53; exact hg.trans e2
                            exact J318 y9_279 z0_279 ((upd (v_279 0) d218 w_40) d218) (mkL (upd (v_279 0) d218 w_40) (v_279 1) (v_279 2) (v_279 3) (v_279 4)) hg hI _ _ hP hS _ (lv_sub hl [1, 2, 3, 4, 5, 6, 7, 8, 9, 10, 0, 11] rfl)
                        refine lv_icmp_le (tgt := 277) hC.1 hC.2.1 dL_prints_269 (by decide) (fun k269 => ?_) (fun k269 => ?_)
                        · refine lv_iload hC.1 hC.2.1 dL_prints_277 (lv_at hl 11 rfl) ?_
                          have e_54 : bL_prints_218 v x6 y6_79 y8_79 d79 d218 (y9_218, y12_218, v_218) = tL_prints_J279 v x6 y6_79 y8_79 d79 d218 y9_218 (fL_pulse v_218 x6 (nI d218) ((v_218 4) 0)) y12_218 v_218 := by delta bL_prints_218; exact Eq.trans (if_pos k233) (Eq.trans (if_pos k247) (Eq.trans (if_pos k269) rfl))
                          have hg : fL_prints v x6 = (tL_prints_79 v x6 y6_79 y8_79 (lpF n79 (d79 + 1) (bL_prints_79 v x6 y6_79 y8_79) (tL_prints_218 v x6 y6_79 y8_79 d79 (lpF n218 (d218 + 1) (bL_prints_218 v x6 y6_79 y8_79 d79) (tL_prints_J279 v x6 y6_79 y8_79 d79 d218 y9_218 (fL_pulse v_218 x6 (nI d218) ((v_218 4) 0)) y12_218 v_218))))) := by have e2 := congrArg (fun z => (tL_prints_79 v x6 y6_79 y8_79 (lpF n79 (d79 + 1) (bL_prints_79 v x6 y6_79 y8_79) (tL_prints_218 v x6 y6_79 y8_79 d79 (lpF n218 (d218 + 1) (bL_prints_218 v x6 y6_79 y8_79 d79) z))))) e_54; exact hg.trans e2
                          exact J279 y9_218 (fL_pulse v_218 x6 (nI d218) ((v_218 4) 0)) y12_218 v_218 hg hI _ _ hP hS _ (lv_sub hl [1, 2, 3, 4, 5, 6, 7, 8, 9, 10, 12, 0] rfl)
                        · refine lv_iload hC.1 hC.2.1 dL_prints_272 (lv_at hl 0 rfl) ?_
                          refine lv_goto (tgt := 279) hC.1 hC.2.1 dL_prints_274 (by decide) ?_
                          have e_55 : bL_prints_218 v x6 y6_79 y8_79 d79 d218 (y9_218, y12_218, v_218) = tL_prints_J279 v x6 y6_79 y8_79 d79 d218 y9_218 (fL_pulse v_218 x6 (nI d218) ((v_218 4) 0)) (fL_pulse v_218 x6 (nI d218) ((v_218 4) 0)) v_218 := by delta bL_prints_218; exact Eq.trans (if_pos k233) (Eq.trans (if_pos k247) (Eq.trans (if_neg k269) rfl))
                          have hg : fL_prints v x6 = (tL_prints_79 v x6 y6_79 y8_79 (lpF n79 (d79 + 1) (bL_prints_79 v x6 y6_79 y8_79) (tL_prints_218 v x6 y6_79 y8_79 d79 (lpF n218 (d218 + 1) (bL_prints_218 v x6 y6_79 y8_79 d79) (tL_prints_J279 v x6 y6_79 y8_79 d79 d218 y9_218 (fL_pulse v_218 x6 (nI d218) ((v_218 4) 0)) (fL_pulse v_218 x6 (nI d218) ((v_218 4) 0)) v_218))))) := by have e2 := congrArg (fun z => (tL_prints_79 v x6 y6_79 y8_79 (lpF n79 (d79 + 1) (bL_prints_79 v x6 y6_79 y8_79) (tL_prints_218 v x6 y6_79 y8_79 d79 (lpF n218 (d218 + 1) (bL_prints_218 v x6 y6_79 y8_79 d79) z))))) e_55; exact hg.trans e2
                          exact J279 y9_218 (fL_pulse v_218 x6 (nI d218) ((v_218 4) 0)) (fL_pulse v_218 x6 (nI d218) ((v_218 4) 0)) v_218 hg hI _ _ hP hS _ (lv_sub hl [1, 2, 3, 4, 5, 6, 7, 8, 9, 10, 12, 0] rfl)
              have e_56 : tL_prints_89 v x6 y6_79 y8_79 d79 y9_89 (y11_89, v_89) = tL_prints_218 v x6 y6_79 y8_79 d79 (lpF 24 0 (bL_prints_218 v x6 y6_79 y8_79 d79) (y9_89, 0, v_89)) := by delta tL_prints_89; exact rfl
              have hg : fL_prints v x6 = (tL_prints_79 v x6 y6_79 y8_79 (lpF n79 (d79 + 1) (bL_prints_79 v x6 y6_79 y8_79) (tL_prints_218 v x6 y6_79 y8_79 d79 (lpF 24 0 (bL_prints_218 v x6 y6_79 y8_79 d79) (y9_89, 0, v_89))))) := by have e2 := congrArg (fun z => (tL_prints_79 v x6 y6_79 y8_79 (lpF n79 (d79 + 1) (bL_prints_79 v x6 y6_79 y8_79) z))) e_56; exact hg.trans e2
              exact L218  24 0 y9_89 0 v_89 (by omega) hg hI _ _ hP hS _ (lv_sub hl [2, 3, 4, 5, 6, 7, 8, 9, 10, 11, 1, 0] rfl)
            have L89 : ∀ (y9_89 : Int32), ∀ (n89 : Nat), ∀ (y11_89 : Int32) (v_89 : SV), lpT n89 (bL_prints_89 v x6 y6_79 y8_79 d79 y9_89) (y11_89, v_89) → fL_prints v x6 = (tL_prints_79 v x6 y6_79 y8_79 (lpF n79 (d79 + 1) (bL_prints_79 v x6 y6_79 y8_79) (tL_prints_89 v x6 y6_79 y8_79 d79 y9_89 (lpB n89 (bL_prints_89 v x6 y6_79 y8_79 d79 y9_89) (y11_89, v_89))))) → Lgs v_89 → ∀ (H : Heap) (locs : List Loc), PW G (lwW G q v_89) H → va_S (lwA q) s.heap H locs → ∀ (ls : Array Slot), lv_has ls 15 [(0, .ref (q 0)), (1, .ref (q 1)), (2, .ref (q 2)), (3, .ref (q 3)), (4, .ref (q 4)), (5, .int x6), (6, .int y6_79), (8, .int y8_79), (9, .int y9_89), (10, .int (nI d79)), (11, .int y11_89)] → W p l e ({ frames := 2, cells := 0, slots := 0, locals := 47 }) s m ([.ref (q 0), .ref (q 1), .ref (q 2), .ref (q 3), .ref (q 4), .int x6] : List Value).toArray below meth c H locs 0 0 (MQ below (QE (none) (fun H => PW G (lwW G q (fL_prints v x6)) H) (lwA q)) ([.ref (q 0), .ref (q 1), .ref (q 2), .ref (q 3), .ref (q 4), .int x6] : List Value).toArray s 0 0 (lwA q)) (F0 m 89 ls []) := by
              intro y9_89
              intro n89
              induction n89 with
              | zero =>
                intro y11_89 v_89 hT
                exact hT.elim
              | succ n89 ih =>
                intro y11_89 v_89 hT hg hI H locs hP hS ls hl
                have hg : fL_prints v x6 = (tL_prints_79 v x6 y6_79 y8_79 (lpF n79 (d79 + 1) (bL_prints_79 v x6 y6_79 y8_79) (tL_prints_89 v x6 y6_79 y8_79 d79 y9_89 (lpBs n89 (bL_prints_89 v x6 y6_79 y8_79 d79 y9_89) (bL_prints_89 v x6 y6_79 y8_79 d79 y9_89 (y11_89, v_89)))))) := hg
                have hT : lpTs n89 (bL_prints_89 v x6 y6_79 y8_79 d79 y9_89) (bL_prints_89 v x6 y6_79 y8_79 d79 y9_89 (y11_89, v_89)) := hT
                refine lv_iload hC.1 hC.2.1 dL_prints_89 (lv_at hl 10 rfl) ?_
                refine lv_if_eq (tgt := 212) hC.1 hC.2.1 dL_prints_91 (by decide) (fun k91 => ?_) (fun k91 => ?_)
                · have e_57 : bL_prints_89 v x6 y6_79 y8_79 d79 y9_89 (y11_89, v_89) = (false, (y11_89, v_89)) := by delta bL_prints_89; exact Eq.trans (if_pos k91) rfl
                  have hg : fL_prints v x6 = (tL_prints_79 v x6 y6_79 y8_79 (lpF n79 (d79 + 1) (bL_prints_79 v x6 y6_79 y8_79) (tL_prints_89 v x6 y6_79 y8_79 d79 y9_89 (y11_89, v_89)))) := by have e2 := congrArg (fun z => (tL_prints_79 v x6 y6_79 y8_79 (lpF n79 (d79 + 1) (bL_prints_79 v x6 y6_79 y8_79) (tL_prints_89 v x6 y6_79 y8_79 d79 y9_89 (lpBs n89 (bL_prints_89 v x6 y6_79 y8_79 d79 y9_89) z))))) e_57; exact hg.trans e2
                  have hT : lpTs n89 (bL_prints_89 v x6 y6_79 y8_79 d79 y9_89) (false, (y11_89, v_89)) := by rw [← e_57]; exact hT
                  exact A89 y9_89 y11_89 v_89 hg hI _ _ hP hS _ (lv_sub hl [0, 1, 2, 3, 4, 5, 6, 7, 8, 9] rfl)
                · refine lv_iconst (v := 0) hC.1 hC.2.1 dL_prints_94 (by decide) ?_
                  refine lv_istore (lv' := [(11, .int 0), (0, .ref (q 0)), (1, .ref (q 1)), (2, .ref (q 2)), (3, .ref (q 3)), (4, .ref (q 4)), (5, .int x6), (6, .int y6_79), (8, .int y8_79), (9, .int y9_89), (10, .int (nI d79))]) hC.1 hC.2.1 dL_prints_95 hl (by decide) rfl (fun ls hl => ?_)
                  refine lv_iconst (v := 0) hC.1 hC.2.1 dL_prints_97 (by decide) ?_
                  refine lv_istore (lv' := [(12, .int 0), (11, .int 0), (0, .ref (q 0)), (1, .ref (q 1)), (2, .ref (q 2)), (3, .ref (q 3)), (4, .ref (q 4)), (5, .int x6), (6, .int y6_79), (8, .int y8_79), (9, .int y9_89), (10, .int (nI d79))]) hC.1 hC.2.1 dL_prints_98 hl (by decide) rfl (fun ls hl => ?_)
                  have A100 : ∀ (v_100 : SV), ∀ (y11_100 : Int32), fL_prints v x6 = (tL_prints_79 v x6 y6_79 y8_79 (lpF n79 (d79 + 1) (bL_prints_79 v x6 y6_79 y8_79) (tL_prints_89 v x6 y6_79 y8_79 d79 y9_89 (lpBs n89 (bL_prints_89 v x6 y6_79 y8_79 d79 y9_89) (tL_prints_100 v x6 y6_79 y8_79 d79 y9_89 v_100 y11_100))))) → lpTs n89 (bL_prints_89 v x6 y6_79 y8_79 d79 y9_89) (tL_prints_100 v x6 y6_79 y8_79 d79 y9_89 v_100 y11_100) → Lgs v_100 → ∀ (H : Heap) (locs : List Loc), PW G (lwW G q v_100) H → va_S (lwA q) s.heap H locs → ∀ (ls : Array Slot), lv_has ls 15 [(0, .ref (q 0)), (1, .ref (q 1)), (2, .ref (q 2)), (3, .ref (q 3)), (4, .ref (q 4)), (5, .int x6), (6, .int y6_79), (8, .int y8_79), (9, .int y9_89), (10, .int (nI d79)), (11, .int y11_100)] → W p l e ({ frames := 2, cells := 0, slots := 0, locals := 47 }) s m ([.ref (q 0), .ref (q 1), .ref (q 2), .ref (q 3), .ref (q 4), .int x6] : List Value).toArray below meth c H locs 0 0 (MQ below (QE (none) (fun H => PW G (lwW G q (fL_prints v x6)) H) (lwA q)) ([.ref (q 0), .ref (q 1), .ref (q 2), .ref (q 3), .ref (q 4), .int x6] : List Value).toArray s 0 0 (lwA q)) (F0 m 175 ls []) := by
                    intro v_100 y11_100 hg hT hI H locs hP hS ls hl
                    refine lv_aload_n hC.1 hC.2.1 dL_prints_175 rfl (lv_at hl 0 rfl) ?_
                    refine lv_aload hC.1 hC.2.1 dL_prints_176 (lv_at hl 4 rfl) ?_
                    refine lv_iload hC.1 hC.2.1 dL_prints_178 (lv_at hl 10 rfl) ?_
                    have J188 : ∀ (y11_188 : Int32) (z2_188 : Int32) (v_188 : SV), fL_prints v x6 = (tL_prints_79 v x6 y6_79 y8_79 (lpF n79 (d79 + 1) (bL_prints_79 v x6 y6_79 y8_79) (tL_prints_89 v x6 y6_79 y8_79 d79 y9_89 (lpBs n89 (bL_prints_89 v x6 y6_79 y8_79 d79 y9_89) (tL_prints_J188 v x6 y6_79 y8_79 d79 y9_89 y11_188 z2_188 v_188))))) → lpTs n89 (bL_prints_89 v x6 y6_79 y8_79 d79 y9_89) (tL_prints_J188 v x6 y6_79 y8_79 d79 y9_89 y11_188 z2_188 v_188) → Lgs v_188 → ∀ (H : Heap) (locs : List Loc), PW G (lwW G q v_188) H → va_S (lwA q) s.heap H locs → ∀ (ls : Array Slot), lv_has ls 15 [(0, .ref (q 0)), (1, .ref (q 1)), (2, .ref (q 2)), (3, .ref (q 3)), (4, .ref (q 4)), (5, .int x6), (6, .int y6_79), (8, .int y8_79), (9, .int y9_89), (10, .int (nI d79)), (11, .int y11_188)] → W p l e ({ frames := 2, cells := 0, slots := 0, locals := 47 }) s m ([.ref (q 0), .ref (q 1), .ref (q 2), .ref (q 3), .ref (q 4), .int x6] : List Value).toArray below meth c H locs 0 0 (MQ below (QE (none) (fun H => PW G (lwW G q (fL_prints v x6)) H) (lwA q)) ([.ref (q 0), .ref (q 1), .ref (q 2), .ref (q 3), .ref (q 4), .int x6] : List Value).toArray s 0 0 (lwA q)) (F0 m 188 ls [.int z2_188, .ref (q 4), .ref (q 0)]) := by
                      intro y11_188 z2_188 v_188 hg hT hI H locs hP hS ls hl
                      refine runE (rS (B := fun U H => PW G (lwW G q v_188) H) (As := [.ref (q 0), .ref (q 4), .int z2_188]) (rest := []) hC mwL_passes (c_L_passes l G q v_188 z2_188 hq hI) wd_440 wd_439 ⟨rfl, rfl⟩ ⟨Nat.le_of_ble_eq_true rfl, Nat.le_of_ble_eq_true rfl⟩ (stb_h (fun H => PW G (lwW G q v_188) H)) (hKN.go hAL hS) hP rfl hl.1 rfl (Nat.le_of_ble_eq_true rfl) dL_prints_188 ⟨Nat.zero_le _, Nat.zero_le _⟩) hS (fun _ h => h) (fun _ h => h) (fun H locs hq_58 _ _ hS => ?_)
                      have hP : PW G (lwW G q (fL_passes v_188 z2_188)) H := hq_58
                      obtain ⟨r_59, er_59⟩ : ∃ z, z = fL_passes v_188 z2_188 := ⟨_, rfl⟩
                      rw [← er_59] at hP
                      have hI : Lgs r_59 := by rw [er_59]; exact I_L_passes v_188 z2_188 hI
                      refine lv_aload hC.1 hC.2.1 dL_prints_191 (lv_at hl 4 rfl) ?_
                      refine lv_bipush (v := 17) hC.1 hC.2.1 dL_prints_193 (by decide +kernel) ?_
                      refine lv_dup2_11 hC.1 hC.2.1 dL_prints_195 rfl rfl ?_
                      refine iald_k hC (hKN.go hAL hS) hP 4 rfl (n := 21) (f := (r_59 4)) 17 (rfl) (by omega) (by first | decide | omega) dL_prints_196 ?_
                      refine lv_iload hC.1 hC.2.1 dL_prints_197 (lv_at hl 10 rfl) ?_
                      have J207 : ∀ (y11_207 : Int32) (z2_207 : Int32) (z3_207 : Int32) (v_207 : SV), fL_prints v x6 = (tL_prints_79 v x6 y6_79 y8_79 (lpF n79 (d79 + 1) (bL_prints_79 v x6 y6_79 y8_79) (tL_prints_89 v x6 y6_79 y8_79 d79 y9_89 (lpBs n89 (bL_prints_89 v x6 y6_79 y8_79 d79 y9_89) (tL_prints_J207 v x6 y6_79 y8_79 d79 y9_89 y11_207 z2_207 z3_207 v_207))))) → lpTs n89 (bL_prints_89 v x6 y6_79 y8_79 d79 y9_89) (tL_prints_J207 v x6 y6_79 y8_79 d79 y9_89 y11_207 z2_207 z3_207 v_207) → Lgs v_207 → ∀ (H : Heap) (locs : List Loc), PW G (lwW G q v_207) H → va_S (lwA q) s.heap H locs → ∀ (ls : Array Slot), lv_has ls 15 [(0, .ref (q 0)), (1, .ref (q 1)), (2, .ref (q 2)), (3, .ref (q 3)), (4, .ref (q 4)), (5, .int x6), (6, .int y6_79), (8, .int y8_79), (9, .int y9_89), (10, .int (nI d79)), (11, .int y11_207)] → W p l e ({ frames := 2, cells := 0, slots := 0, locals := 47 }) s m ([.ref (q 0), .ref (q 1), .ref (q 2), .ref (q 3), .ref (q 4), .int x6] : List Value).toArray below meth c H locs 0 0 (MQ below (QE (none) (fun H => PW G (lwW G q (fL_prints v x6)) H) (lwA q)) ([.ref (q 0), .ref (q 1), .ref (q 2), .ref (q 3), .ref (q 4), .int x6] : List Value).toArray s 0 0 (lwA q)) (F0 m 207 ls [.int z3_207, .int z2_207, .int 17, .ref (q 4)]) := by
                        intro y11_207 z2_207 z3_207 v_207 hg hT hI H locs hP hS ls hl
                        refine lv_iadd hC.1 hC.2.1 dL_prints_207 ?_
                        refine lv_topi (fun w_60 ew_60 => ?_)
                        refine iast_k hC (hKN.go hAL hS) hP (lwD_D hq v_207) hS 4 rfl (n := 21) (f := (v_207 4)) 17 (rfl) (by omega) (by first | decide | omega) dL_prints_208 (fun H locs hq_61 hS => ?_)
                        have hP : PW G (lwW G q (mkL (v_207 0) (v_207 1) (v_207 2) (v_207 3) (upd (v_207 4) 17 w_60))) H := hq_61
                        have hI : Lgs (mkL (v_207 0) (v_207 1) (v_207 2) (v_207 3) (upd (v_207 4) 17 w_60)) := (LSn_upd hI (by decide))
                        refine lv_goto (tgt := 89) hC.1 hC.2.1 dL_prints_209 (by decide) ?_
                        have e_62 : tL_prints_J207 v x6 y6_79 y8_79 d79 y9_89 y11_207 z2_207 z3_207 v_207 = (true, (y11_207, mkL (v_207 0) (v_207 1) (v_207 2) (v_207 3) (upd (v_207 4) 17 w_60))) := by have q_ := ew_60.symm; subst q_; delta tL_prints_J207; exact rfl
                        have hg : fL_prints v x6 = (tL_prints_79 v x6 y6_79 y8_79 (lpF n79 (d79 + 1) (bL_prints_79 v x6 y6_79 y8_79) (tL_prints_89 v x6 y6_79 y8_79 d79 y9_89 (lpB n89 (bL_prints_89 v x6 y6_79 y8_79 d79 y9_89) (y11_207, mkL (v_207 0) (v_207 1) (v_207 2) (v_207 3) (upd (v_207 4) 17 w_60)))))) := by have e2 := congrArg (fun z => (tL_prints_79 v x6 y6_79 y8_79 (lpF n79 (d79 + 1) (bL_prints_79 v x6 y6_79 y8_79) (tL_prints_89 v x6 y6_79 y8_79 d79 y9_89 (lpBs n89 (bL_prints_89 v x6 y6_79 y8_79 d79 y9_89) z))))) e_62; exact hg.trans e2
                        have hT : lpTs n89 (bL_prints_89 v x6 y6_79 y8_79 d79 y9_89) (true, (y11_207, mkL (v_207 0) (v_207 1) (v_207 2) (v_207 3) (upd (v_207 4) 17 w_60))) := by rw [← e_62]; exact hT
                        exact ih y11_207 (mkL (v_207 0) (v_207 1) (v_207 2) (v_207 3) (upd (v_207 4) 17 w_60)) (lpT_go hT) hg hI _ _ hP hS _ (lv_sub hl [0, 1, 2, 3, 4, 5, 6, 7, 8, 9, 10] rfl)
                      refine lv_if_eq (tgt := 206) hC.1 hC.2.1 dL_prints_199 (by decide) (fun k199 => ?_) (fun k199 => ?_)
                      · refine lv_iconst (v := 0) hC.1 hC.2.1 dL_prints_206 (by decide) ?_
                        have e_63 : tL_prints_J188 v x6 y6_79 y8_79 d79 y9_89 y11_188 z2_188 v_188 = tL_prints_J207 v x6 y6_79 y8_79 d79 y9_89 y11_188 ((r_59 4) 17) 0 r_59 := by have q_ := er_59.symm; subst q_; delta tL_prints_J188; exact Eq.trans (if_pos k199) rfl
                        have hg : fL_prints v x6 = (tL_prints_79 v x6 y6_79 y8_79 (lpF n79 (d79 + 1) (bL_prints_79 v x6 y6_79 y8_79) (tL_prints_89 v x6 y6_79 y8_79 d79 y9_89 (lpBs n89 (bL_prints_89 v x6 y6_79 y8_79 d79 y9_89) (tL_prints_J207 v x6 y6_79 y8_79 d79 y9_89 y11_188 ((r_59 4) 17) 0 r_59))))) := by have e2 := congrArg (fun z => (tL_prints_79 v x6 y6_79 y8_79 (lpF n79 (d79 + 1) (bL_prints_79 v x6 y6_79 y8_79) (tL_prints_89 v x6 y6_79 y8_79 d79 y9_89 (lpBs n89 (bL_prints_89 v x6 y6_79 y8_79 d79 y9_89) z))))) e_63; exact hg.trans e2
                        have hT : lpTs n89 (bL_prints_89 v x6 y6_79 y8_79 d79 y9_89) (tL_prints_J207 v x6 y6_79 y8_79 d79 y9_89 y11_188 ((r_59 4) 17) 0 r_59) := by rw [← e_63]; exact hT
                        exact J207 y11_188 ((r_59 4) 17) 0 r_59 hg hT hI _ _ hP hS _ (lv_sub hl [0, 1, 2, 3, 4, 5, 6, 7, 8, 9, 10] rfl)
                      · refine lv_iconst (v := 1) hC.1 hC.2.1 dL_prints_202 (by decide) ?_
                        refine lv_goto (tgt := 207) hC.1 hC.2.1 dL_prints_203 (by decide) ?_
                        have e_64 : tL_prints_J188 v x6 y6_79 y8_79 d79 y9_89 y11_188 z2_188 v_188 = tL_prints_J207 v x6 y6_79 y8_79 d79 y9_89 y11_188 ((r_59 4) 17) 1 r_59 := by have q_ := er_59.symm; subst q_; delta tL_prints_J188; exact Eq.trans (if_neg k199) rfl
                        have hg : fL_prints v x6 = (tL_prints_79 v x6 y6_79 y8_79 (lpF n79 (d79 + 1) (bL_prints_79 v x6 y6_79 y8_79) (tL_prints_89 v x6 y6_79 y8_79 d79 y9_89 (lpBs n89 (bL_prints_89 v x6 y6_79 y8_79 d79 y9_89) (tL_prints_J207 v x6 y6_79 y8_79 d79 y9_89 y11_188 ((r_59 4) 17) 1 r_59))))) := by have e2 := congrArg (fun z => (tL_prints_79 v x6 y6_79 y8_79 (lpF n79 (d79 + 1) (bL_prints_79 v x6 y6_79 y8_79) (tL_prints_89 v x6 y6_79 y8_79 d79 y9_89 (lpBs n89 (bL_prints_89 v x6 y6_79 y8_79 d79 y9_89) z))))) e_64; exact hg.trans e2
                        have hT : lpTs n89 (bL_prints_89 v x6 y6_79 y8_79 d79 y9_89) (tL_prints_J207 v x6 y6_79 y8_79 d79 y9_89 y11_188 ((r_59 4) 17) 1 r_59) := by rw [← e_64]; exact hT
                        exact J207 y11_188 ((r_59 4) 17) 1 r_59 hg hT hI _ _ hP hS _ (lv_sub hl [0, 1, 2, 3, 4, 5, 6, 7, 8, 9, 10] rfl)
                    refine lv_if_eq (tgt := 187) hC.1 hC.2.1 dL_prints_180 (by decide) (fun k180 => ?_) (fun k180 => ?_)
                    · refine lv_iconst (v := 0) hC.1 hC.2.1 dL_prints_187 (by decide) ?_
                      have e_65 : tL_prints_100 v x6 y6_79 y8_79 d79 y9_89 v_100 y11_100 = tL_prints_J188 v x6 y6_79 y8_79 d79 y9_89 y11_100 0 v_100 := by delta tL_prints_100; exact Eq.trans (if_pos k180) rfl
                      have hg : fL_prints v x6 = (tL_prints_79 v x6 y6_79 y8_79 (lpF n79 (d79 + 1) (bL_prints_79 v x6 y6_79 y8_79) (tL_prints_89 v x6 y6_79 y8_79 d79 y9_89 (lpBs n89 (bL_prints_89 v x6 y6_79 y8_79 d79 y9_89) (tL_prints_J188 v x6 y6_79 y8_79 d79 y9_89 y11_100 0 v_100))))) := by have e2 := congrArg (fun z => (tL_prints_79 v x6 y6_79 y8_79 (lpF n79 (d79 + 1) (bL_prints_79 v x6 y6_79 y8_79) (tL_prints_89 v x6 y6_79 y8_79 d79 y9_89 (lpBs n89 (bL_prints_89 v x6 y6_79 y8_79 d79 y9_89) z))))) e_65; exact hg.trans e2
                      have hT : lpTs n89 (bL_prints_89 v x6 y6_79 y8_79 d79 y9_89) (tL_prints_J188 v x6 y6_79 y8_79 d79 y9_89 y11_100 0 v_100) := by rw [← e_65]; exact hT
                      exact J188 y11_100 0 v_100 hg hT hI _ _ hP hS _ (lv_sub hl [0, 1, 2, 3, 4, 5, 6, 7, 8, 9, 10] rfl)
                    · refine lv_iconst (v := 1) hC.1 hC.2.1 dL_prints_183 (by decide) ?_
                      refine lv_goto (tgt := 188) hC.1 hC.2.1 dL_prints_184 (by decide) ?_
                      have e_66 : tL_prints_100 v x6 y6_79 y8_79 d79 y9_89 v_100 y11_100 = tL_prints_J188 v x6 y6_79 y8_79 d79 y9_89 y11_100 1 v_100 := by delta tL_prints_100; exact Eq.trans (if_neg k180) rfl
                      have hg : fL_prints v x6 = (tL_prints_79 v x6 y6_79 y8_79 (lpF n79 (d79 + 1) (bL_prints_79 v x6 y6_79 y8_79) (tL_prints_89 v x6 y6_79 y8_79 d79 y9_89 (lpBs n89 (bL_prints_89 v x6 y6_79 y8_79 d79 y9_89) (tL_prints_J188 v x6 y6_79 y8_79 d79 y9_89 y11_100 1 v_100))))) := by have e2 := congrArg (fun z => (tL_prints_79 v x6 y6_79 y8_79 (lpF n79 (d79 + 1) (bL_prints_79 v x6 y6_79 y8_79) (tL_prints_89 v x6 y6_79 y8_79 d79 y9_89 (lpBs n89 (bL_prints_89 v x6 y6_79 y8_79 d79 y9_89) z))))) e_66; exact hg.trans e2
                      have hT : lpTs n89 (bL_prints_89 v x6 y6_79 y8_79 d79 y9_89) (tL_prints_J188 v x6 y6_79 y8_79 d79 y9_89 y11_100 1 v_100) := by rw [← e_66]; exact hT
                      exact J188 y11_100 1 v_100 hg hT hI _ _ hP hS _ (lv_sub hl [0, 1, 2, 3, 4, 5, 6, 7, 8, 9, 10] rfl)
                  have L100 : ∀ (v_100 : SV), ∀ (n100 d100 : Nat), ∀ (y11_100 : Int32), d100 + n100 = 24 → fL_prints v x6 = (tL_prints_79 v x6 y6_79 y8_79 (lpF n79 (d79 + 1) (bL_prints_79 v x6 y6_79 y8_79) (tL_prints_89 v x6 y6_79 y8_79 d79 y9_89 (lpBs n89 (bL_prints_89 v x6 y6_79 y8_79 d79 y9_89) (tL_prints_100 v x6 y6_79 y8_79 d79 y9_89 v_100 (lpF n100 d100 (bL_prints_100 v x6 y6_79 y8_79 d79 y9_89 v_100) y11_100)))))) → lpTs n89 (bL_prints_89 v x6 y6_79 y8_79 d79 y9_89) (tL_prints_100 v x6 y6_79 y8_79 d79 y9_89 v_100 (lpF n100 d100 (bL_prints_100 v x6 y6_79 y8_79 d79 y9_89 v_100) y11_100)) → Lgs v_100 → ∀ (H : Heap) (locs : List Loc), PW G (lwW G q v_100) H → va_S (lwA q) s.heap H locs → ∀ (ls : Array Slot), lv_has ls 15 [(0, .ref (q 0)), (1, .ref (q 1)), (2, .ref (q 2)), (3, .ref (q 3)), (4, .ref (q 4)), (5, .int x6), (6, .int y6_79), (8, .int y8_79), (9, .int y9_89), (10, .int (nI d79)), (11, .int y11_100), (12, .int (nI d100))] → W p l e ({ frames := 2, cells := 0, slots := 0, locals := 47 }) s m ([.ref (q 0), .ref (q 1), .ref (q 2), .ref (q 3), .ref (q 4), .int x6] : List Value).toArray below meth c H locs 0 0 (MQ below (QE (none) (fun H => PW G (lwW G q (fL_prints v x6)) H) (lwA q)) ([.ref (q 0), .ref (q 1), .ref (q 2), .ref (q 3), .ref (q 4), .int x6] : List Value).toArray s 0 0 (lwA q)) (F0 m 100 ls []) := by
                    intro v_100
                    intro n100
                    induction n100 with
                    | zero =>
                      intro d100 y11_100 hd hg hTo hI H locs hP hS ls hl
                      refine lv_iload hC.1 hC.2.1 dL_prints_100 (lv_at hl 11 rfl) ?_
                      refine lv_bipush (v := 24) hC.1 hC.2.1 dL_prints_102 (by decide +kernel) ?_
                      refine lv_icmp_ge (tgt := 175) hC.1 hC.2.1 dL_prints_104 (by decide) (fun k104 => ?_) (fun k104 => ?_)
                      · exact A100 v_100 y11_100 hg hTo hI _ _ hP hS _ (lv_sub hl [0, 1, 2, 3, 4, 5, 6, 7, 8, 9, 10] rfl)
                      · exact absurd (nI_le (a := 24) (b := d100) (by omega) (by omega)) k104
                    | succ n100 ih =>
                      intro d100 y11_100 hd hg hTo hI H locs hP hS ls hl
                      have hg : fL_prints v x6 = (tL_prints_79 v x6 y6_79 y8_79 (lpF n79 (d79 + 1) (bL_prints_79 v x6 y6_79 y8_79) (tL_prints_89 v x6 y6_79 y8_79 d79 y9_89 (lpBs n89 (bL_prints_89 v x6 y6_79 y8_79 d79 y9_89) (tL_prints_100 v x6 y6_79 y8_79 d79 y9_89 v_100 (lpF n100 (d100 + 1) (bL_prints_100 v x6 y6_79 y8_79 d79 y9_89 v_100) (bL_prints_100 v x6 y6_79 y8_79 d79 y9_89 v_100 d100 y11_100))))))) := hg
                      have hTo : lpTs n89 (bL_prints_89 v x6 y6_79 y8_79 d79 y9_89) (tL_prints_100 v x6 y6_79 y8_79 d79 y9_89 v_100 (lpF n100 (d100 + 1) (bL_prints_100 v x6 y6_79 y8_79 d79 y9_89 v_100) (bL_prints_100 v x6 y6_79 y8_79 d79 y9_89 v_100 d100 y11_100))) := hTo
                      refine lv_iload hC.1 hC.2.1 dL_prints_100 (lv_at hl 11 rfl) ?_
                      refine lv_bipush (v := 24) hC.1 hC.2.1 dL_prints_102 (by decide +kernel) ?_
                      refine lv_icmp_ge (tgt := 175) hC.1 hC.2.1 dL_prints_104 (by decide) (fun k104 => ?_) (fun k104 => ?_)
                      · exact absurd k104 (nI_ge (a := d100) (b := 24) (by omega) (by omega))
                      · refine lv_iload hC.1 hC.2.1 dL_prints_107 (lv_at hl 10 rfl) ?_
                        refine lv_if_ne (tgt := 162) hC.1 hC.2.1 dL_prints_109 (by decide) (fun k109 => ?_) (fun k109 => ?_)
                        · refine lv_iconst (v := 1) hC.1 hC.2.1 dL_prints_162 (by decide) ?_
                          refine lv_goto (tgt := 167) hC.1 hC.2.1 dL_prints_163 (by decide) ?_
                          refine lv_istore (lv' := [(11, .int 1), (0, .ref (q 0)), (1, .ref (q 1)), (2, .ref (q 2)), (3, .ref (q 3)), (4, .ref (q 4)), (5, .int x6), (6, .int y6_79), (8, .int y8_79), (9, .int y9_89), (10, .int (nI d79)), (12, .int (nI d100))]) hC.1 hC.2.1 dL_prints_167 hl (by decide) rfl (fun ls hl => ?_)
                          refine lv_iinc (v := nI (d100 + 1)) (lv' := [(12, .int (nI (d100 + 1))), (11, .int 1), (0, .ref (q 0)), (1, .ref (q 1)), (2, .ref (q 2)), (3, .ref (q 3)), (4, .ref (q 4)), (5, .int x6), (6, .int y6_79), (8, .int y8_79), (9, .int y9_89), (10, .int (nI d79))]) hC.1 hC.2.1 dL_prints_169 hl (k := 11) rfl (nI_1 _) (by decide) rfl (fun ls hl => ?_)
                          refine lv_goto (tgt := 100) hC.1 hC.2.1 dL_prints_172 (by decide) ?_
                          have e_67 : bL_prints_100 v x6 y6_79 y8_79 d79 y9_89 v_100 d100 y11_100 = 1 := by delta bL_prints_100; exact Eq.trans (if_neg k109) rfl
                          have hg : fL_prints v x6 = (tL_prints_79 v x6 y6_79 y8_79 (lpF n79 (d79 + 1) (bL_prints_79 v x6 y6_79 y8_79) (tL_prints_89 v x6 y6_79 y8_79 d79 y9_89 (lpBs n89 (bL_prints_89 v x6 y6_79 y8_79 d79 y9_89) (tL_prints_100 v x6 y6_79 y8_79 d79 y9_89 v_100 (lpF n100 (d100 + 1) (bL_prints_100 v x6 y6_79 y8_79 d79 y9_89 v_100) 1)))))) := by have e2 := congrArg (fun z => (tL_prints_79 v x6 y6_79 y8_79 (lpF n79 (d79 + 1) (bL_prints_79 v x6 y6_79 y8_79) (tL_prints_89 v x6 y6_79 y8_79 d79 y9_89 (lpBs n89 (bL_prints_89 v x6 y6_79 y8_79 d79 y9_89) (tL_prints_100 v x6 y6_79 y8_79 d79 y9_89 v_100 (lpF n100 (d100 + 1) (bL_prints_100 v x6 y6_79 y8_79 d79 y9_89 v_100) z))))))) e_67; exact hg.trans e2
                          have hTo : lpTs n89 (bL_prints_89 v x6 y6_79 y8_79 d79 y9_89) (tL_prints_100 v x6 y6_79 y8_79 d79 y9_89 v_100 (lpF n100 (d100 + 1) (bL_prints_100 v x6 y6_79 y8_79 d79 y9_89 v_100) 1)) := by rw [← e_67]; exact hTo
                          exact ih (d100 + 1) 1 (by omega) hg hTo hI _ _ hP hS _ (lv_sub hl [2, 3, 4, 5, 6, 7, 8, 9, 10, 11, 1, 0] rfl)
                        · refine lv_iload hC.1 hC.2.1 dL_prints_112 (lv_at hl 5 rfl) ?_
                          refine lv_iload hC.1 hC.2.1 dL_prints_114 (lv_at hl 11 rfl) ?_
                          refine lv_ishr hC.1 hC.2.1 dL_prints_116 ?_
                          refine lv_iconst (v := 1) hC.1 hC.2.1 dL_prints_117 (by decide) ?_
                          refine lv_iand hC.1 hC.2.1 dL_prints_118 ?_
                          refine lv_iconst (v := 1) hC.1 hC.2.1 dL_prints_119 (by decide) ?_
                          refine lv_icmp_ne (tgt := 166) hC.1 hC.2.1 dL_prints_120 (by decide) (fun k120 => ?_) (fun k120 => ?_)
                          · refine lv_iconst (v := 0) hC.1 hC.2.1 dL_prints_166 (by decide) ?_
                            refine lv_istore (lv' := [(11, .int 0), (0, .ref (q 0)), (1, .ref (q 1)), (2, .ref (q 2)), (3, .ref (q 3)), (4, .ref (q 4)), (5, .int x6), (6, .int y6_79), (8, .int y8_79), (9, .int y9_89), (10, .int (nI d79)), (12, .int (nI d100))]) hC.1 hC.2.1 dL_prints_167 hl (by decide) rfl (fun ls hl => ?_)
                            refine lv_iinc (v := nI (d100 + 1)) (lv' := [(12, .int (nI (d100 + 1))), (11, .int 0), (0, .ref (q 0)), (1, .ref (q 1)), (2, .ref (q 2)), (3, .ref (q 3)), (4, .ref (q 4)), (5, .int x6), (6, .int y6_79), (8, .int y8_79), (9, .int y9_89), (10, .int (nI d79))]) hC.1 hC.2.1 dL_prints_169 hl (k := 11) rfl (nI_1 _) (by decide) rfl (fun ls hl => ?_)
                            refine lv_goto (tgt := 100) hC.1 hC.2.1 dL_prints_172 (by decide) ?_
                            have e_68 : bL_prints_100 v x6 y6_79 y8_79 d79 y9_89 v_100 d100 y11_100 = 0 := by delta bL_prints_100; exact Eq.trans (if_pos k109) (Eq.trans (if_neg k120) rfl)
                            have hg : fL_prints v x6 = (tL_prints_79 v x6 y6_79 y8_79 (lpF n79 (d79 + 1) (bL_prints_79 v x6 y6_79 y8_79) (tL_prints_89 v x6 y6_79 y8_79 d79 y9_89 (lpBs n89 (bL_prints_89 v x6 y6_79 y8_79 d79 y9_89) (tL_prints_100 v x6 y6_79 y8_79 d79 y9_89 v_100 (lpF n100 (d100 + 1) (bL_prints_100 v x6 y6_79 y8_79 d79 y9_89 v_100) 0)))))) := by have e2 := congrArg (fun z => (tL_prints_79 v x6 y6_79 y8_79 (lpF n79 (d79 + 1) (bL_prints_79 v x6 y6_79 y8_79) (tL_prints_89 v x6 y6_79 y8_79 d79 y9_89 (lpBs n89 (bL_prints_89 v x6 y6_79 y8_79 d79 y9_89) (tL_prints_100 v x6 y6_79 y8_79 d79 y9_89 v_100 (lpF n100 (d100 + 1) (bL_prints_100 v x6 y6_79 y8_79 d79 y9_89 v_100) z))))))) e_68; exact hg.trans e2
                            have hTo : lpTs n89 (bL_prints_89 v x6 y6_79 y8_79 d79 y9_89) (tL_prints_100 v x6 y6_79 y8_79 d79 y9_89 v_100 (lpF n100 (d100 + 1) (bL_prints_100 v x6 y6_79 y8_79 d79 y9_89 v_100) 0)) := by rw [← e_68]; exact hTo
                            exact ih (d100 + 1) 0 (by omega) hg hTo hI _ _ hP hS _ (lv_sub hl [2, 3, 4, 5, 6, 7, 8, 9, 10, 11, 1, 0] rfl)
                          · refine lv_aload hC.1 hC.2.1 dL_prints_123 (lv_at hl 4 rfl) ?_
                            refine lv_iload hC.1 hC.2.1 dL_prints_125 (lv_at hl 5 rfl) ?_
                            refine lv_iload hC.1 hC.2.1 dL_prints_127 (lv_at hl 11 rfl) ?_
                            refine runP (rS (B := fun U H => PW G (lwW G q v_100) H) (As := [.ref (q 4), .int x6, .int (nI d100)]) (rest := []) hC mwL_partOf (c_L_partOf l G q v_100 x6 (nI d100) hI k120) wd_437 wd_436 ⟨rfl, rfl⟩ ⟨Nat.le_of_ble_eq_true rfl, Nat.le_of_ble_eq_true rfl⟩ (stb_h (fun H => PW G (lwW G q v_100) H)) (hKN.go hAL hS) hP rfl hl.1 rfl (Nat.le_of_ble_eq_true rfl) dL_prints_129 ⟨Nat.zero_le _, Nat.zero_le _⟩) ?_
                            refine lv_iload hC.1 hC.2.1 dL_prints_132 (lv_at hl 9 rfl) ?_
                            refine lv_icmp_ne (tgt := 166) hC.1 hC.2.1 dL_prints_134 (by decide) (fun k134 => ?_) (fun k134 => ?_)
                            · refine lv_iconst (v := 0) hC.1 hC.2.1 dL_prints_166 (by decide) ?_
                              refine lv_istore (lv' := [(11, .int 0), (0, .ref (q 0)), (1, .ref (q 1)), (2, .ref (q 2)), (3, .ref (q 3)), (4, .ref (q 4)), (5, .int x6), (6, .int y6_79), (8, .int y8_79), (9, .int y9_89), (10, .int (nI d79)), (12, .int (nI d100))]) hC.1 hC.2.1 dL_prints_167 hl (by decide) rfl (fun ls hl => ?_)
                              refine lv_iinc (v := nI (d100 + 1)) (lv' := [(12, .int (nI (d100 + 1))), (11, .int 0), (0, .ref (q 0)), (1, .ref (q 1)), (2, .ref (q 2)), (3, .ref (q 3)), (4, .ref (q 4)), (5, .int x6), (6, .int y6_79), (8, .int y8_79), (9, .int y9_89), (10, .int (nI d79))]) hC.1 hC.2.1 dL_prints_169 hl (k := 11) rfl (nI_1 _) (by decide) rfl (fun ls hl => ?_)
                              refine lv_goto (tgt := 100) hC.1 hC.2.1 dL_prints_172 (by decide) ?_
                              have e_69 : bL_prints_100 v x6 y6_79 y8_79 d79 y9_89 v_100 d100 y11_100 = 0 := by delta bL_prints_100; exact Eq.trans (if_pos k109) (Eq.trans (if_pos k120) (Eq.trans (if_neg k134) rfl))
                              have hg : fL_prints v x6 = (tL_prints_79 v x6 y6_79 y8_79 (lpF n79 (d79 + 1) (bL_prints_79 v x6 y6_79 y8_79) (tL_prints_89 v x6 y6_79 y8_79 d79 y9_89 (lpBs n89 (bL_prints_89 v x6 y6_79 y8_79 d79 y9_89) (tL_prints_100 v x6 y6_79 y8_79 d79 y9_89 v_100 (lpF n100 (d100 + 1) (bL_prints_100 v x6 y6_79 y8_79 d79 y9_89 v_100) 0)))))) := by have e2 := congrArg (fun z => (tL_prints_79 v x6 y6_79 y8_79 (lpF n79 (d79 + 1) (bL_prints_79 v x6 y6_79 y8_79) (tL_prints_89 v x6 y6_79 y8_79 d79 y9_89 (lpBs n89 (bL_prints_89 v x6 y6_79 y8_79 d79 y9_89) (tL_prints_100 v x6 y6_79 y8_79 d79 y9_89 v_100 (lpF n100 (d100 + 1) (bL_prints_100 v x6 y6_79 y8_79 d79 y9_89 v_100) z))))))) e_69; exact hg.trans e2
                              have hTo : lpTs n89 (bL_prints_89 v x6 y6_79 y8_79 d79 y9_89) (tL_prints_100 v x6 y6_79 y8_79 d79 y9_89 v_100 (lpF n100 (d100 + 1) (bL_prints_100 v x6 y6_79 y8_79 d79 y9_89 v_100) 0)) := by rw [← e_69]; exact hTo
                              exact ih (d100 + 1) 0 (by omega) hg hTo hI _ _ hP hS _ (lv_sub hl [2, 3, 4, 5, 6, 7, 8, 9, 10, 11, 1, 0] rfl)
                            · refine lv_aload_n hC.1 hC.2.1 dL_prints_137 rfl (lv_at hl 0 rfl) ?_
                              refine lv_iload hC.1 hC.2.1 dL_prints_138 (lv_at hl 11 rfl) ?_
                              refine iald_k hC (hKN.go hAL hS) hP 0 rfl (n := 24) (f := (v_100 0)) d100 (rfl) (by omega) (by first | decide | omega) dL_prints_140 ?_
                              refine lv_aload hC.1 hC.2.1 dL_prints_141 (lv_at hl 4 rfl) ?_
                              refine lv_iload hC.1 hC.2.1 dL_prints_143 (lv_at hl 5 rfl) ?_
                              refine lv_iload hC.1 hC.2.1 dL_prints_145 (lv_at hl 11 rfl) ?_
                              refine lv_aload hC.1 hC.2.1 dL_prints_147 (lv_at hl 4 rfl) ?_
                              refine lv_iconst (v := 0) hC.1 hC.2.1 dL_prints_149 (by decide) ?_
                              refine iald_k hC (hKN.go hAL hS) hP 4 rfl (n := 21) (f := (v_100 4)) 0 (rfl) (by omega) (by first | decide | omega) dL_prints_150 ?_
                              refine runP (rS (B := fun U H => PW G (lwW G q v_100) H) (As := [.ref (q 4), .int x6, .int (nI d100), .int ((v_100 4) 0)]) (rest := [.int ((v_100 0) d100)]) hC mwL_pulse (c_L_pulse l G q v_100 x6 (nI d100) ((v_100 4) 0)) wd_226 wd_225 ⟨rfl, rfl⟩ ⟨Nat.le_of_ble_eq_true rfl, Nat.le_of_ble_eq_true rfl⟩ (stb_h (fun H => PW G (lwW G q v_100) H)) (hKN.go hAL hS) hP rfl hl.1 rfl (Nat.le_of_ble_eq_true rfl) dL_prints_151 ⟨Nat.zero_le _, Nat.zero_le _⟩) ?_
                              refine lv_iadd hC.1 hC.2.1 dL_prints_154 ?_
                              refine lv_aload hC.1 hC.2.1 dL_prints_155 (lv_at hl 4 rfl) ?_
                              refine lv_iconst (v := 2) hC.1 hC.2.1 dL_prints_157 (by decide) ?_
                              refine iald_k hC (hKN.go hAL hS) hP 4 rfl (n := 21) (f := (v_100 4)) 2 (rfl) (by omega) (by first | decide | omega) dL_prints_158 ?_
                              refine lv_icmp_le (tgt := 166) hC.1 hC.2.1 dL_prints_159 (by decide) (fun k159 => ?_) (fun k159 => ?_)
                              · refine lv_iconst (v := 0) hC.1 hC.2.1 dL_prints_166 (by decide) ?_
                                refine lv_istore (lv' := [(11, .int 0), (0, .ref (q 0)), (1, .ref (q 1)), (2, .ref (q 2)), (3, .ref (q 3)), (4, .ref (q 4)), (5, .int x6), (6, .int y6_79), (8, .int y8_79), (9, .int y9_89), (10, .int (nI d79)), (12, .int (nI d100))]) hC.1 hC.2.1 dL_prints_167 hl (by decide) rfl (fun ls hl => ?_)
                                refine lv_iinc (v := nI (d100 + 1)) (lv' := [(12, .int (nI (d100 + 1))), (11, .int 0), (0, .ref (q 0)), (1, .ref (q 1)), (2, .ref (q 2)), (3, .ref (q 3)), (4, .ref (q 4)), (5, .int x6), (6, .int y6_79), (8, .int y8_79), (9, .int y9_89), (10, .int (nI d79))]) hC.1 hC.2.1 dL_prints_169 hl (k := 11) rfl (nI_1 _) (by decide) rfl (fun ls hl => ?_)
                                refine lv_goto (tgt := 100) hC.1 hC.2.1 dL_prints_172 (by decide) ?_
                                have e_70 : bL_prints_100 v x6 y6_79 y8_79 d79 y9_89 v_100 d100 y11_100 = 0 := by delta bL_prints_100; exact Eq.trans (if_pos k109) (Eq.trans (if_pos k120) (Eq.trans (if_pos k134) (Eq.trans (if_pos k159) rfl)))
                                have hg : fL_prints v x6 = (tL_prints_79 v x6 y6_79 y8_79 (lpF n79 (d79 + 1) (bL_prints_79 v x6 y6_79 y8_79) (tL_prints_89 v x6 y6_79 y8_79 d79 y9_89 (lpBs n89 (bL_prints_89 v x6 y6_79 y8_79 d79 y9_89) (tL_prints_100 v x6 y6_79 y8_79 d79 y9_89 v_100 (lpF n100 (d100 + 1) (bL_prints_100 v x6 y6_79 y8_79 d79 y9_89 v_100) 0)))))) := by have e2 := congrArg (fun z => (tL_prints_79 v x6 y6_79 y8_79 (lpF n79 (d79 + 1) (bL_prints_79 v x6 y6_79 y8_79) (tL_prints_89 v x6 y6_79 y8_79 d79 y9_89 (lpBs n89 (bL_prints_89 v x6 y6_79 y8_79 d79 y9_89) (tL_prints_100 v x6 y6_79 y8_79 d79 y9_89 v_100 (lpF n100 (d100 + 1) (bL_prints_100 v x6 y6_79 y8_79 d79 y9_89 v_100) z))))))) e_70; exact hg.trans e2
                                have hTo : lpTs n89 (bL_prints_89 v x6 y6_79 y8_79 d79 y9_89) (tL_prints_100 v x6 y6_79 y8_79 d79 y9_89 v_100 (lpF n100 (d100 + 1) (bL_prints_100 v x6 y6_79 y8_79 d79 y9_89 v_100) 0)) := by rw [← e_70]; exact hTo
                                exact ih (d100 + 1) 0 (by omega) hg hTo hI _ _ hP hS _ (lv_sub hl [2, 3, 4, 5, 6, 7, 8, 9, 10, 11, 1, 0] rfl)
                              · refine lv_iconst (v := 1) hC.1 hC.2.1 dL_prints_162 (by decide) ?_
                                refine lv_goto (tgt := 167) hC.1 hC.2.1 dL_prints_163 (by decide) ?_
                                refine lv_istore (lv' := [(11, .int 1), (0, .ref (q 0)), (1, .ref (q 1)), (2, .ref (q 2)), (3, .ref (q 3)), (4, .ref (q 4)), (5, .int x6), (6, .int y6_79), (8, .int y8_79), (9, .int y9_89), (10, .int (nI d79)), (12, .int (nI d100))]) hC.1 hC.2.1 dL_prints_167 hl (by decide) rfl (fun ls hl => ?_)
                                refine lv_iinc (v := nI (d100 + 1)) (lv' := [(12, .int (nI (d100 + 1))), (11, .int 1), (0, .ref (q 0)), (1, .ref (q 1)), (2, .ref (q 2)), (3, .ref (q 3)), (4, .ref (q 4)), (5, .int x6), (6, .int y6_79), (8, .int y8_79), (9, .int y9_89), (10, .int (nI d79))]) hC.1 hC.2.1 dL_prints_169 hl (k := 11) rfl (nI_1 _) (by decide) rfl (fun ls hl => ?_)
                                refine lv_goto (tgt := 100) hC.1 hC.2.1 dL_prints_172 (by decide) ?_
                                have e_71 : bL_prints_100 v x6 y6_79 y8_79 d79 y9_89 v_100 d100 y11_100 = 1 := by delta bL_prints_100; exact Eq.trans (if_pos k109) (Eq.trans (if_pos k120) (Eq.trans (if_pos k134) (Eq.trans (if_neg k159) rfl)))
                                have hg : fL_prints v x6 = (tL_prints_79 v x6 y6_79 y8_79 (lpF n79 (d79 + 1) (bL_prints_79 v x6 y6_79 y8_79) (tL_prints_89 v x6 y6_79 y8_79 d79 y9_89 (lpBs n89 (bL_prints_89 v x6 y6_79 y8_79 d79 y9_89) (tL_prints_100 v x6 y6_79 y8_79 d79 y9_89 v_100 (lpF n100 (d100 + 1) (bL_prints_100 v x6 y6_79 y8_79 d79 y9_89 v_100) 1)))))) := by have e2 := congrArg (fun z => (tL_prints_79 v x6 y6_79 y8_79 (lpF n79 (d79 + 1) (bL_prints_79 v x6 y6_79 y8_79) (tL_prints_89 v x6 y6_79 y8_79 d79 y9_89 (lpBs n89 (bL_prints_89 v x6 y6_79 y8_79 d79 y9_89) (tL_prints_100 v x6 y6_79 y8_79 d79 y9_89 v_100 (lpF n100 (d100 + 1) (bL_prints_100 v x6 y6_79 y8_79 d79 y9_89 v_100) z))))))) e_71; exact hg.trans e2
                                have hTo : lpTs n89 (bL_prints_89 v x6 y6_79 y8_79 d79 y9_89) (tL_prints_100 v x6 y6_79 y8_79 d79 y9_89 v_100 (lpF n100 (d100 + 1) (bL_prints_100 v x6 y6_79 y8_79 d79 y9_89 v_100) 1)) := by rw [← e_71]; exact hTo
                                exact ih (d100 + 1) 1 (by omega) hg hTo hI _ _ hP hS _ (lv_sub hl [2, 3, 4, 5, 6, 7, 8, 9, 10, 11, 1, 0] rfl)
                  have e_72 : bL_prints_89 v x6 y6_79 y8_79 d79 y9_89 (y11_89, v_89) = tL_prints_100 v x6 y6_79 y8_79 d79 y9_89 v_89 (lpF 24 0 (bL_prints_100 v x6 y6_79 y8_79 d79 y9_89 v_89) 0) := by delta bL_prints_89; exact Eq.trans (if_neg k91) rfl
                  have hg : fL_prints v x6 = (tL_prints_79 v x6 y6_79 y8_79 (lpF n79 (d79 + 1) (bL_prints_79 v x6 y6_79 y8_79) (tL_prints_89 v x6 y6_79 y8_79 d79 y9_89 (lpBs n89 (bL_prints_89 v x6 y6_79 y8_79 d79 y9_89) (tL_prints_100 v x6 y6_79 y8_79 d79 y9_89 v_89 (lpF 24 0 (bL_prints_100 v x6 y6_79 y8_79 d79 y9_89 v_89) 0)))))) := by have e2 := congrArg (fun z => (tL_prints_79 v x6 y6_79 y8_79 (lpF n79 (d79 + 1) (bL_prints_79 v x6 y6_79 y8_79) (tL_prints_89 v x6 y6_79 y8_79 d79 y9_89 (lpBs n89 (bL_prints_89 v x6 y6_79 y8_79 d79 y9_89) z))))) e_72; exact hg.trans e2
                  have hT : lpTs n89 (bL_prints_89 v x6 y6_79 y8_79 d79 y9_89) (tL_prints_100 v x6 y6_79 y8_79 d79 y9_89 v_89 (lpF 24 0 (bL_prints_100 v x6 y6_79 y8_79 d79 y9_89 v_89) 0)) := by rw [← e_72]; exact hT
                  exact L100 v_89 24 0 0 (by omega) hg hT hI _ _ hP hS _ (lv_sub hl [2, 3, 4, 5, 6, 7, 8, 9, 10, 11, 1, 0] rfl)
            have e_73 : bL_prints_79 v x6 y6_79 y8_79 d79 (y9_79, v_79) = tL_prints_89 v x6 y6_79 y8_79 d79 y9_79 (lpB (mT + 3) (bL_prints_89 v x6 y6_79 y8_79 d79 y9_79) (1, v_79)) := by delta bL_prints_79; exact rfl
            have hg : fL_prints v x6 = (tL_prints_79 v x6 y6_79 y8_79 (lpF n79 (d79 + 1) (bL_prints_79 v x6 y6_79 y8_79) (tL_prints_89 v x6 y6_79 y8_79 d79 y9_79 (lpB (mT + 3) (bL_prints_89 v x6 y6_79 y8_79 d79 y9_79) (1, v_79))))) := by have e2 := congrArg (fun z => (tL_prints_79 v x6 y6_79 y8_79 (lpF n79 (d79 + 1) (bL_prints_79 v x6 y6_79 y8_79) z))) e_73; exact hg.trans e2
            exact L89 y9_79 (mT + 3) 1 v_79 ((T_prints_89 _ _ _ _ _ _ hI)) hg hI _ _ hP hS _ (lv_sub hl [1, 2, 3, 4, 5, 6, 7, 8, 9, 10, 0] rfl)
      have e_74 : tL_prints_J58 v x6 y6_58 z0_58 z1_58 v_58 = tL_prints_79 v x6 y6_58 (z0_58 + z1_58) (lpF ((z0_58 + z1_58).toNatClampNeg) 0 (bL_prints_79 v x6 y6_58 (z0_58 + z1_58)) (0, mkL (v_58 0) (v_58 1) (v_58 2) (v_58 3) (upd (upd (v_58 4) 17 0) 20 0))) := by delta tL_prints_J58; exact rfl
      have hg : fL_prints v x6 = (tL_prints_79 v x6 y6_58 (z0_58 + z1_58) (lpF ((z0_58 + z1_58).toNatClampNeg) 0 (bL_prints_79 v x6 y6_58 (z0_58 + z1_58)) (0, mkL (v_58 0) (v_58 1) (v_58 2) (v_58 3) (upd (upd (v_58 4) 17 0) 20 0)))) := by have e2 := congrArg (fun z => z) e_74; exact hg.trans e2
      exact L79 y6_58 (z0_58 + z1_58) ((z0_58 + z1_58).toNatClampNeg) 0 0 (mkL (v_58 0) (v_58 1) (v_58 2) (v_58 3) (upd (upd (v_58 4) 17 0) 20 0)) (by omega) hg hI _ _ hP hS _ (lv_sub hl [3, 4, 5, 6, 7, 8, 9, 2, 1, 0] rfl)
    refine lv_if_le (tgt := 57) hC.1 hC.2.1 dL_prints_50 (by decide) (fun k50 => ?_) (fun k50 => ?_)
    · refine lv_iconst (v := 0) hC.1 hC.2.1 dL_prints_57 (by decide) ?_
      have e_75 : tL_prints_J32 v x6 y6_32 z0_32 v_32 = tL_prints_J58 v x6 y6_32 ((fL_ones x6) / z0_32) 0 v_32 := by delta tL_prints_J32; exact Eq.trans (if_pos k50) rfl
      have hg : fL_prints v x6 = tL_prints_J58 v x6 y6_32 ((fL_ones x6) / z0_32) 0 v_32 := by have e2 := congrArg (fun z => z) e_75; exact hg.trans e2
      exact J58 y6_32 ((fL_ones x6) / z0_32) 0 v_32 hg hI.1 _ _ hP hS _ (lv_sub hl [1, 2, 3, 4, 5, 6, 7] rfl)
    · refine lv_iconst (v := 1) hC.1 hC.2.1 dL_prints_53 (by decide) ?_
      refine lv_goto (tgt := 58) hC.1 hC.2.1 dL_prints_54 (by decide) ?_
      have e_76 : tL_prints_J32 v x6 y6_32 z0_32 v_32 = tL_prints_J58 v x6 y6_32 ((fL_ones x6) / z0_32) 1 v_32 := by delta tL_prints_J32; exact Eq.trans (if_neg k50) rfl
      have hg : fL_prints v x6 = tL_prints_J58 v x6 y6_32 ((fL_ones x6) / z0_32) 1 v_32 := by have e2 := congrArg (fun z => z) e_76; exact hg.trans e2
      exact J58 y6_32 ((fL_ones x6) / z0_32) 1 v_32 hg hI.1 _ _ hP hS _ (lv_sub hl [1, 2, 3, 4, 5, 6, 7] rfl)
  refine lv_if_le (tgt := 31) hC.1 hC.2.1 dL_prints_16 (by decide) (fun k16 => ?_) (fun k16 => ?_)
  · refine lv_iconst (v := 1) hC.1 hC.2.1 dL_prints_31 (by decide) ?_
    have e_77 : fL_prints v x6 = tL_prints_J32 v x6 ((v 4) 8) 1 v := by delta fL_prints; exact Eq.trans (if_pos k16) rfl
    have hg : fL_prints v x6 = tL_prints_J32 v x6 ((v 4) 8) 1 v := by have e2 := congrArg (fun z => z) e_77; exact hg.trans e2
    exact J32 ((v 4) 8) 1 v hg (⟨hI, by first | exact mny_1 | exact mny_q hI k16⟩) _ _ hP hS _ (lv_sub hl [1, 2, 3, 4, 5, 6, 0] rfl)
  · refine lv_aload hC.1 hC.2.1 dL_prints_19 (lv_at hl 5 rfl) ?_
    refine lv_iconst (v := 4) hC.1 hC.2.1 dL_prints_21 (by decide) ?_
    refine iald_k hC hKN hP 4 rfl (n := 21) (f := (v 4)) 4 (rfl) (by omega) (by first | decide | omega) dL_prints_22 ?_
    refine lv_aload hC.1 hC.2.1 dL_prints_23 (lv_at hl 5 rfl) ?_
    refine lv_iconst (v := 3) hC.1 hC.2.1 dL_prints_25 (by decide) ?_
    refine iald_k hC hKN hP 4 rfl (n := 21) (f := (v 4)) 3 (rfl) (by omega) (by first | decide | omega) dL_prints_26 ?_
    refine lv_idiv hC.1 hC.2.1 dL_prints_27 (LS_3 hI) ?_
    refine lv_goto (tgt := 32) hC.1 hC.2.1 dL_prints_28 (by decide) ?_
    have e_78 : fL_prints v x6 = tL_prints_J32 v x6 ((v 4) 8) (((v 4) 4) / ((v 4) 3)) v := by delta fL_prints; exact Eq.trans (if_neg k16) rfl
    have hg : fL_prints v x6 = tL_prints_J32 v x6 ((v 4) 8) (((v 4) 4) / ((v 4) 3)) v := by have e2 := congrArg (fun z => z) e_78; exact hg.trans e2
    exact J32 ((v 4) 8) (((v 4) 4) / ((v 4) 3)) v hg (⟨hI, by first | exact mny_1 | exact mny_q hI k16⟩) _ _ hP hS _ (lv_sub hl [1, 2, 3, 4, 5, 6, 0] rfl)
