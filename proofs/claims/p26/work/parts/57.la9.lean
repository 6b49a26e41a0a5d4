def tL_wouldDot_126 (x : HV) (v : SV) (f2 : Nat → Int32) (k1 : Nat) (x2 : Int32) (y5_126 : Int32) (f_126 : Nat → Int32) (s : Int32) : (Nat → Int32) × Int32 := let y8_126 := s; if (fX5_coolIn x x2) = y5_126 then (if (fX5_darkFrom x (nI k1)) = y8_126 then ((f_126, 1)) else ((f_126, 0))) else ((f_126, 0))
def tL_wouldDot_J196 (x : HV) (v : SV) (f2 : Nat → Int32) (k1 : Nat) (x2 : Int32) (y5_126 : Int32) (f_126 : Nat → Int32) (d126 : Nat) (z0_196 : Int32) : (Int32) ⊕ (Int32) := Sum.inl z0_196
def tL_wouldDot_154 (x : HV) (v : SV) (f2 : Nat → Int32) (k1 : Nat) (x2 : Int32) (y5_126 : Int32) (f_126 : Nat → Int32) (d126 : Nat) (y10_154 : Int32) (s : Int32) : (Int32) ⊕ (Int32) := let y11_154 := s; if (fL_dark v) ≤ (y11_154 + y10_154) then (tL_wouldDot_J196 x v f2 k1 x2 y5_126 f_126 d126 (nI d126)) else (tL_wouldDot_J196 x v f2 k1 x2 y5_126 f_126 d126 (-1))
def bL_wouldDot_154 (x : HV) (v : SV) (f2 : Nat → Int32) (k1 : Nat) (x2 : Int32) (y5_126 : Int32) (f_126 : Nat → Int32) (d126 : Nat) (y10_154 : Int32) (s : Int32) : Bool × (Int32) := let y11_154 := s; if (y11_154 + y10_154) ≤ ((v 4) 2) then ((false, y11_154)) else ((true, fL_less y11_154 ((v 4) 1)))
def bL_wouldDot_126 (x : HV) (v : SV) (f2 : Nat → Int32) (k1 : Nat) (x2 : Int32) (y5_126 : Int32) (f_126 : Nat → Int32) (d126 : Nat) (s : Int32) : (Int32) ⊕ (Int32) := let y8_126 := s; if 0 ≤ y8_126 then (Sum.inr y8_126) else (tL_wouldDot_154 x v f2 k1 x2 y5_126 f_126 d126 (fL_pulse v 0 (nI k1) (nI d126)) (lpB (mT + 1) (bL_wouldDot_154 x v f2 k1 x2 y5_126 f_126 d126 (fL_pulse v 0 (nI k1) (nI d126))) ((v 0) k1)))
def tL_wouldDot_18 (x : HV) (v : SV) (f2 : Nat → Int32) (k1 : Nat) (x2 : Int32) (s : Int32 × Int32 × (Nat → Int32)) : (Nat → Int32) × Int32 := let y5_18 := s.1; let y6_18 := s.2.1; let f_18 := s.2.2; Sum.elim (tL_wouldDot_126 x v f2 k1 x2 y5_18 f_18) (tL_wouldDot_126 x v f2 k1 x2 y5_18 f_18) (lpR (301 - 50) 50 (bL_wouldDot_126 x v f2 k1 x2 y5_18 f_18) (-1))
def tL_wouldDot_J113 (x : HV) (v : SV) (f2 : Nat → Int32) (k1 : Nat) (x2 : Int32) (y6_113 : Int32) (z0_113 : Int32) (z1_113 : Int32) (f_113 : Nat → Int32) : Bool × (Int32 × Int32 × (Nat → Int32)) := (true, (z0_113 + z1_113, y6_113, f_113))
def tL_wouldDot_67 (x : HV) (v : SV) (f2 : Nat → Int32) (k1 : Nat) (x2 : Int32) (y5_67 : Int32) (y6_67 : Int32) (s : (Nat → Int32)) : Bool × (Int32 × Int32 × (Nat → Int32)) := let f_67 := s; if y6_67 = 0 then (tL_wouldDot_J113 x v f2 k1 x2 y6_67 y5_67 0 f_67) else (tL_wouldDot_J113 x v f2 k1 x2 y6_67 y5_67 1 f_67)
def bL_wouldDot_67 (x : HV) (v : SV) (f2 : Nat → Int32) (k1 : Nat) (x2 : Int32) (y5_67 : Int32) (y6_67 : Int32) (d67 : Nat) (s : (Nat → Int32)) : ((Nat → Int32)) ⊕ ((Nat → Int32)) := let f_67 := s; if y6_67 = 0 then (Sum.inr f_67) else (let w_20 : Int32 := fL_less (f_67 d67) ((v 4) 1); Sum.inl (upd f_67 d67 w_20))
def tL_wouldDot_29 (x : HV) (v : SV) (f2 : Nat → Int32) (k1 : Nat) (x2 : Int32) (y5_29 : Int32) (f_29 : Nat → Int32) (s : Int32) : Bool × (Int32 × Int32 × (Nat → Int32)) := let y6_29 := s; Sum.elim (tL_wouldDot_67 x v f2 k1 x2 y5_29 y6_29) (tL_wouldDot_67 x v f2 k1 x2 y5_29 y6_29) (lpR 24 0 (bL_wouldDot_67 x v f2 k1 x2 y5_29 y6_29) f_29)
def bL_wouldDot_29 (x : HV) (v : SV) (f2 : Nat → Int32) (k1 : Nat) (x2 : Int32) (y5_29 : Int32) (f_29 : Nat → Int32) (d29 : Nat) (s : Int32) : Int32 := let y6_29 := s; if y6_29 = 0 then (if (f_29 d29) ≤ x2 then (0) else (1)) else (1)
def bL_wouldDot_18 (x : HV) (v : SV) (f2 : Nat → Int32) (k1 : Nat) (x2 : Int32) (s : Int32 × Int32 × (Nat → Int32)) : Bool × (Int32 × Int32 × (Nat → Int32)) := let y5_18 := s.1; let y6_18 := s.2.1; let f_18 := s.2.2; if y6_18 = 0 then ((false, (y5_18, y6_18, f_18))) else (tL_wouldDot_29 x v f2 k1 x2 y5_18 f_18 (lpF 24 0 (bL_wouldDot_29 x v f2 k1 x2 y5_18 f_18) 0))
def fL_wouldDot (x : HV) (v : SV) (f2 : Nat → Int32) (k1 : Nat) (x2 : Int32) : (Nat → Int32) × Int32 := tL_wouldDot_18 x v f2 k1 x2 (lpB (mT + 3) (bL_wouldDot_18 x v f2 k1 x2) (0, 1, fL_copy 24 (v 0) 24 f2))
theorem plI_bd {p : Nat} (hp : p ≤ 2) (l b x dd : Int32) {s : Int32} (hs : bd s 0 300) : ∃ n, 20 ≤ n ∧ n ≤ 325 ∧ plI (nI p) l b x dd s = nI n := by
  have hz : bd (fX5_at 3 st3 (nI p)) (-15) 25 := by
    match p, hp with
    | 0, _ => rw [st3_0]; exact ⟨by decide, by decide⟩
    | 1, _ => rw [st3_1]; exact ⟨by decide, by decide⟩
    | 2, _ => rw [st3_2]; exact ⟨by decide, by decide⟩
    | p + 3, h => exact absurd h (by omega)
  obtain ⟨a1, l1, e1⟩ := bit_n l dd
  obtain ⟨a2, l2, e2⟩ := bit_n b dd
  obtain ⟨a3, l3, e3⟩ := bit_n x (dd - 1)
  obtain ⟨a4, l4, e4⟩ := bit_n x (dd + 1)
  have eL : ((20 : Int32) * nI a1 + 10 * nI a2) + 5 * (nI a3 + nI a4) = nI (20 * a1 + 10 * a2 + 5 * (a3 + a4)) := by
    rw [show (20 : Int32) * nI a1 = nI (20 * a1) from pk_mul 20 a1, show (10 : Int32) * nI a2 = nI (10 * a2) from pk_mul 10 a2, nI_add a3 a4, show (5 : Int32) * nI (a3 + a4) = nI (5 * (a3 + a4)) from pk_mul 5 (a3 + a4), nI_add, nI_add]
  unfold plI
  rw [e1, e2, e3, e4, eL]
  have hL : 20 * a1 + 10 * a2 + 5 * (a3 + a4) ≤ 40 := by omega
  generalize 20 * a1 + 10 * a2 + 5 * (a3 + a4) = L at hL ⊢
  have hE := bd_sub (bd_add hs hz (by omega) (by omega)) (bd_nI (c := L) (a := 0) (b := 40) (by omega) (by omega) (by omega)) (by omega) (by omega)
  generalize s + fX5_at 3 st3 (nI p) - nI L = E at hE ⊢
  by_cases q : 20 < E
  · rw [if_pos q]
    have hq : (20 : Int) < E.toInt := Int32.lt_iff_toInt_lt.mp q
    have h0 : ¬ E < 0 := fun z => by
      have : E.toInt < 0 := Int32.lt_iff_toInt_lt.mp z
      omega
    obtain ⟨e, -⟩ := i_clamp h0
    have hc : E.toInt.toNat = E.toNatClampNeg := rfl
    have := hE.2
    exact ⟨E.toNatClampNeg, by omega, by omega, e⟩
  · rw [if_neg q]
    exact ⟨20, by omega, by omega, rfl⟩
theorem pulse_Lv {v : SV} (hI : Lgs v) (x2 : Int32) {d s : Nat} (hd : d < 24) (hs : s ≤ 300) : ∃ n, 20 ≤ n ∧ n ≤ 325 ∧ fL_pulse v x2 (nI d) (nI s) = nI n := by
  obtain ⟨-, -, -, -, -, -, -, ⟨p, p1, p2⟩⟩ := hI
  rw [pulse_L p2 p1 _ _ hd, p2]
  exact plI_bd p1 _ _ _ _ (bd_nI (by omega) (by omega) (by omega))
theorem T_wd154 {x : HV} {v : SV} {f2 : Nat → Int32} {k1 : Nat} {x2 y5 : Int32} {f : Nat → Int32} {d126 : Nat} (hI : Lgs v) (hk : k1 < 24) (hd : d126 ≤ 300) (s : Int32) : lpT (mT + 1) (bL_wouldDot_154 x v f2 k1 x2 y5 f d126 (fL_pulse v 0 (nI k1) (nI d126))) s := by
  obtain ⟨n, h1, h2, h3⟩ := pulse_Lv hI 0 hk hd
  refine lpB_mT (fun s => s) (fun s h => ?_) (fun s => ?_) s
  · unfold bL_wouldDot_154
    dsimp only at h ⊢
    rw [h3, if_pos (wait_L hI h2 h)]
  · unfold bL_wouldDot_154
    dsimp only
    split
    · exact Or.inl rfl
    · exact Or.inr (less_bd hI s)
/-- the loop over the dots: each cools -/
theorem wd67_n {x : HV} {v : SV} {f2 : Nat → Int32} {k1 : Nat} {x2 y5 y6 : Int32} (hy : ¬ y6 = 0) (n : Nat) : ∀ (i : Nat) (f : Nat → Int32), i + n = 24 → ∃ g, lpR n i (bL_wouldDot_67 x v f2 k1 x2 y5 y6) f = Sum.inl g ∧ ∀ d, g d = if i ≤ d ∧ d < 24 then fL_less (f d) (v 4 1) else f d := by
  induction n with
  | zero => intro i f h; exact ⟨f, rfl, fun d => by rw [if_neg (by omega)]⟩
  | succ n ih =>
    intro i f h
    have e : bL_wouldDot_67 x v f2 k1 x2 y5 y6 i f = Sum.inl (upd f i (fL_less (f i) (v 4 1))) := by
      unfold bL_wouldDot_67
      exact if_neg hy
    obtain ⟨g, g1, g2⟩ := ih (i + 1) (upd f i (fL_less (f i) (v 4 1))) (by omega)
    refine ⟨g, ?_, fun d => ?_⟩
    · rw [lpR, e]
      exact g1
    · rw [g2]
      by_cases z : d = i
      · subst z
        rw [if_neg (by omega), if_pos (by omega), pk_us]
      · rw [pk_un z]
        by_cases z2 : i + 1 ≤ d ∧ d < 24
        · rw [if_pos z2, if_pos (by omega)]
        · rw [if_neg z2, if_neg (by omega)]
def hotW (f : Nat → Int32) (x2 : Int32) : Int32 := lpF 24 0 (fun d s => if s = 0 then (if f d ≤ x2 then 0 else 1) else 1) 0
theorem hotW_e (x : HV) (v : SV) (f2 : Nat → Int32) (k1 : Nat) (x2 y5 : Int32) (f : Nat → Int32) : lpF 24 0 (bL_wouldDot_29 x v f2 k1 x2 y5 f) 0 = hotW f x2 := rfl
theorem hotW_0 {f : Nat → Int32} {x2 : Int32} (hx : ¬ x2 < 0) (h : ∀ d, d < 24 → (f d).toNatClampNeg = 0) : hotW f x2 = 0 := by
  unfold hotW
  refine lpF_0 (fun _ s => s = 0) 24 0 ?_ rfl
  rintro d s hd rfl
  have h1 := (cl_0 (h d hd)).2
  have h2 : ¬ x2.toInt < 0 := fun z => hx (Int32.lt_iff_toInt_lt.mpr z)
  rw [if_pos rfl, if_pos (Int32.le_iff_toInt_le.mpr (by omega))]
theorem wd18_a {x : HV} {v : SV} {f2 : Nat → Int32} {k1 : Nat} {x2 y5 y6 : Int32} {f : Nat → Int32} (hy : ¬ y6 = 0) (h : hotW f x2 = 0) : ∃ y, bL_wouldDot_18 x v f2 k1 x2 (y5, y6, f) = (true, (y, 0, f)) ∧ y = y5 + 0 := by
  refine ⟨y5 + 0, ?_, rfl⟩
  unfold bL_wouldDot_18
  dsimp only
  rw [if_neg hy, hotW_e, h]
  rfl
theorem wd18_b {x : HV} {v : SV} {f2 : Nat → Int32} {k1 : Nat} {x2 y5 y6 : Int32} {f : Nat → Int32} (hy : ¬ y6 = 0) (h : ¬ hotW f x2 = 0) : ∃ g, bL_wouldDot_18 x v f2 k1 x2 (y5, y6, f) = (true, (y5 + 1, hotW f x2, g)) ∧ ∀ d, d < 24 → g d = fL_less (f d) (v 4 1) := by
  obtain ⟨g, g1, g2⟩ := wd67_n (x := x) (v := v) (f2 := f2) (k1 := k1) (x2 := x2) (y5 := y5) h 24 0 f rfl
  refine ⟨g, ?_, fun d hd => (g2 d).trans (if_pos ⟨Nat.zero_le _, hd⟩)⟩
  unfold bL_wouldDot_18
  dsimp only
  rw [if_neg hy, hotW_e]
  unfold tL_wouldDot_29
  dsimp only
  rw [g1, Sum.elim_inl]
  unfold tL_wouldDot_67
  dsimp only
  rw [if_neg h]
  rfl
theorem T_wd18_n {x : HV} {v : SV} {f2 : Nat → Int32} {k1 : Nat} {x2 : Int32} (hI : Lgs v) (hx : ¬ x2 < 0) (n : Nat) : ∀ (f : Nat → Int32) (y5 y6 : Int32), (∀ d, d < 24 → (f d).toNatClampNeg ≤ n) → lpT (n + 3) (bL_wouldDot_18 x v f2 k1 x2) (y5, y6, f) := by
  have stop : ∀ (m : Nat) (y5 : Int32) (f : Nat → Int32), lpT (m + 1) (bL_wouldDot_18 x v f2 k1 x2) (y5, 0, f) := fun m y5 f => lpT_no (t := (y5, 0, f)) (by unfold bL_wouldDot_18; exact if_pos rfl)
  induction n with
  | zero =>
    intro f y5 y6 hh
    by_cases hy : y6 = 0
    · rw [hy]; exact stop _ _ _
    · obtain ⟨y, e, -⟩ := wd18_a (x := x) (v := v) (f2 := f2) (k1 := k1) (y5 := y5) hy (hotW_0 hx (fun d hd => Nat.le_zero.mp (hh d hd)))
      exact lpT_yes e (stop _ _ _)
  | succ n ih =>
    intro f y5 y6 hh
    by_cases hy : y6 = 0
    · rw [hy]; exact stop _ _ _
    · by_cases q : hotW f x2 = 0
      · obtain ⟨y, e, -⟩ := wd18_a (x := x) (v := v) (f2 := f2) (k1 := k1) (y5 := y5) hy q
        exact lpT_yes e (stop _ _ _)
      · obtain ⟨g, e, hg⟩ := wd18_b (x := x) (v := v) (f2 := f2) (k1 := k1) (y5 := y5) hy q
        refine lpT_yes e (ih _ _ _ (fun d hd => ?_))
        rw [hg d hd]
        have := less_bd hI (f d)
        have := hh d hd
        omega
theorem T_wd18 {x : HV} {v : SV} {f2 : Nat → Int32} {k1 : Nat} {x2 : Int32} (hI : Lgs v) (hx : ¬ x2 < 0) (f : Nat → Int32) : lpT (mT + 3) (bL_wouldDot_18 x v f2 k1 x2) (0, 1, f) := T_wd18_n hI hx mT f 0 1 (fun d _ => Nat.le_of_lt (cl_lt _))
theorem dL_wouldDot_0 : decode cL_wouldDot 0 = .ok (.iconst 0, 1) := by decide +kernel
theorem dL_wouldDot_1 : decode cL_wouldDot 1 = .ok (.istore 5, 2) := by decide +kernel
theorem dL_wouldDot_3 : decode cL_wouldDot 3 = .ok (.iconst 1, 1) := by decide +kernel
theorem dL_wouldDot_4 : decode cL_wouldDot 4 = .ok (.istore 6, 2) := by decide +kernel
theorem dL_wouldDot_6 : decode cL_wouldDot 6 = .ok (.bipush 24, 2) := by decide +kernel
theorem dL_wouldDot_8 : decode cL_wouldDot 8 = .ok (.newarray .int, 2) := by decide +kernel
theorem dL_wouldDot_10 : decode cL_wouldDot 10 = .ok (.astore 7, 2) := by decide +kernel
theorem dL_wouldDot_12 : decode cL_wouldDot 12 = .ok (.aload_n 1, 1) := by decide +kernel
theorem dL_wouldDot_13 : decode cL_wouldDot 13 = .ok (.aload 7, 2) := by decide +kernel
theorem dL_wouldDot_15 : decode cL_wouldDot 15 = .ok (.invokestatic 58, 3) := by decide +kernel
theorem dL_wouldDot_18 : decode cL_wouldDot 18 = .ok (.iload 6, 2) := by decide +kernel
theorem dL_wouldDot_20 : decode cL_wouldDot 20 = .ok (.ifCond .eq 99, 3) := by decide +kernel
theorem dL_wouldDot_23 : decode cL_wouldDot 23 = .ok (.iconst 0, 1) := by decide +kernel
theorem dL_wouldDot_24 : decode cL_wouldDot 24 = .ok (.istore 6, 2) := by decide +kernel
theorem dL_wouldDot_26 : decode cL_wouldDot 26 = .ok (.iconst 0, 1) := by decide +kernel
theorem dL_wouldDot_27 : decode cL_wouldDot 27 = .ok (.istore 8, 2) := by decide +kernel
theorem dL_wouldDot_29 : decode cL_wouldDot 29 = .ok (.iload 8, 2) := by decide +kernel
theorem dL_wouldDot_31 : decode cL_wouldDot 31 = .ok (.bipush 24, 2) := by decide +kernel
theorem dL_wouldDot_33 : decode cL_wouldDot 33 = .ok (.if_icmp .ge 31, 3) := by decide +kernel
theorem dL_wouldDot_36 : decode cL_wouldDot 36 = .ok (.iload 6, 2) := by decide +kernel
theorem dL_wouldDot_38 : decode cL_wouldDot 38 = .ok (.ifCond .ne 13, 3) := by decide +kernel
theorem dL_wouldDot_41 : decode cL_wouldDot 41 = .ok (.aload 7, 2) := by decide +kernel
theorem dL_wouldDot_43 : decode cL_wouldDot 43 = .ok (.iload 8, 2) := by decide +kernel
theorem dL_wouldDot_45 : decode cL_wouldDot 45 = .ok (.iaload, 1) := by decide +kernel
theorem dL_wouldDot_46 : decode cL_wouldDot 46 = .ok (.iload 4, 2) := by decide +kernel
theorem dL_wouldDot_48 : decode cL_wouldDot 48 = .ok (.if_icmp .le 7, 3) := by decide +kernel
theorem dL_wouldDot_51 : decode cL_wouldDot 51 = .ok (.iconst 1, 1) := by decide +kernel
theorem dL_wouldDot_52 : decode cL_wouldDot 52 = .ok (.goto 4, 3) := by decide +kernel
theorem dL_wouldDot_55 : decode cL_wouldDot 55 = .ok (.iconst 0, 1) := by decide +kernel
theorem dL_wouldDot_56 : decode cL_wouldDot 56 = .ok (.istore 6, 2) := by decide +kernel
theorem dL_wouldDot_58 : decode cL_wouldDot 58 = .ok (.iinc 8 1, 3) := by decide +kernel
theorem dL_wouldDot_61 : decode cL_wouldDot 61 = .ok (.goto (-32), 3) := by decide +kernel
theorem dL_wouldDot_64 : decode cL_wouldDot 64 = .ok (.iconst 0, 1) := by decide +kernel
theorem dL_wouldDot_65 : decode cL_wouldDot 65 = .ok (.istore 8, 2) := by decide +kernel
theorem dL_wouldDot_67 : decode cL_wouldDot 67 = .ok (.iload 8, 2) := by decide +kernel
theorem dL_wouldDot_69 : decode cL_wouldDot 69 = .ok (.bipush 24, 2) := by decide +kernel
theorem dL_wouldDot_71 : decode cL_wouldDot 71 = .ok (.if_icmp .ge 30, 3) := by decide +kernel
theorem dL_wouldDot_74 : decode cL_wouldDot 74 = .ok (.iload 6, 2) := by decide +kernel
theorem dL_wouldDot_76 : decode cL_wouldDot 76 = .ok (.ifCond .eq 25, 3) := by decide +kernel
theorem dL_wouldDot_79 : decode cL_wouldDot 79 = .ok (.aload 7, 2) := by decide +kernel
theorem dL_wouldDot_81 : decode cL_wouldDot 81 = .ok (.iload 8, 2) := by decide +kernel
theorem dL_wouldDot_83 : decode cL_wouldDot 83 = .ok (.aload 7, 2) := by decide +kernel
theorem dL_wouldDot_85 : decode cL_wouldDot 85 = .ok (.iload 8, 2) := by decide +kernel
theorem dL_wouldDot_87 : decode cL_wouldDot 87 = .ok (.iaload, 1) := by decide +kernel
theorem dL_wouldDot_88 : decode cL_wouldDot 88 = .ok (.aload_n 2, 1) := by decide +kernel
theorem dL_wouldDot_89 : decode cL_wouldDot 89 = .ok (.iconst 1, 1) := by decide +kernel
theorem dL_wouldDot_90 : decode cL_wouldDot 90 = .ok (.iaload, 1) := by decide +kernel
theorem dL_wouldDot_91 : decode cL_wouldDot 91 = .ok (.invokestatic 9, 3) := by decide +kernel
theorem dL_wouldDot_94 : decode cL_wouldDot 94 = .ok (.iastore, 1) := by decide +kernel
theorem dL_wouldDot_95 : decode cL_wouldDot 95 = .ok (.iinc 8 1, 3) := by decide +kernel
theorem dL_wouldDot_98 : decode cL_wouldDot 98 = .ok (.goto (-31), 3) := by decide +kernel
theorem dL_wouldDot_101 : decode cL_wouldDot 101 = .ok (.iload 5, 2) := by decide +kernel
theorem dL_wouldDot_103 : decode cL_wouldDot 103 = .ok (.iload 6, 2) := by decide +kernel
theorem dL_wouldDot_105 : decode cL_wouldDot 105 = .ok (.ifCond .eq 7, 3) := by decide +kernel
theorem dL_wouldDot_108 : decode cL_wouldDot 108 = .ok (.iconst 1, 1) := by decide +kernel
theorem dL_wouldDot_109 : decode cL_wouldDot 109 = .ok (.goto 4, 3) := by decide +kernel
theorem dL_wouldDot_112 : decode cL_wouldDot 112 = .ok (.iconst 0, 1) := by decide +kernel
theorem dL_wouldDot_113 : decode cL_wouldDot 113 = .ok (.iadd, 1) := by decide +kernel
theorem dL_wouldDot_114 : decode cL_wouldDot 114 = .ok (.istore 5, 2) := by decide +kernel
theorem dL_wouldDot_116 : decode cL_wouldDot 116 = .ok (.goto (-98), 3) := by decide +kernel
theorem dL_wouldDot_119 : decode cL_wouldDot 119 = .ok (.iconst (-1), 1) := by decide +kernel
theorem dL_wouldDot_120 : decode cL_wouldDot 120 = .ok (.istore 8, 2) := by decide +kernel
theorem dL_wouldDot_122 : decode cL_wouldDot 122 = .ok (.bipush 50, 2) := by decide +kernel
theorem dL_wouldDot_124 : decode cL_wouldDot 124 = .ok (.istore 9, 2) := by decide +kernel
theorem dL_wouldDot_126 : decode cL_wouldDot 126 = .ok (.iload 9, 2) := by decide +kernel
theorem dL_wouldDot_128 : decode cL_wouldDot 128 = .ok (.sipush 300, 3) := by decide +kernel
theorem dL_wouldDot_131 : decode cL_wouldDot 131 = .ok (.if_icmp .gt 73, 3) := by decide +kernel
theorem dL_wouldDot_134 : decode cL_wouldDot 134 = .ok (.iload 8, 2) := by decide +kernel
theorem dL_wouldDot_136 : decode cL_wouldDot 136 = .ok (.ifCond .ge 68, 3) := by decide +kernel
theorem dL_wouldDot_139 : decode cL_wouldDot 139 = .ok (.aload_n 2, 1) := by decide +kernel
theorem dL_wouldDot_140 : decode cL_wouldDot 140 = .ok (.iconst 0, 1) := by decide +kernel
theorem dL_wouldDot_141 : decode cL_wouldDot 141 = .ok (.iload_n 3, 1) := by decide +kernel
theorem dL_wouldDot_142 : decode cL_wouldDot 142 = .ok (.iload 9, 2) := by decide +kernel
theorem dL_wouldDot_144 : decode cL_wouldDot 144 = .ok (.invokestatic 23, 3) := by decide +kernel
theorem dL_wouldDot_147 : decode cL_wouldDot 147 = .ok (.istore 10, 2) := by decide +kernel
theorem dL_wouldDot_149 : decode cL_wouldDot 149 = .ok (.aload_n 1, 1) := by decide +kernel
theorem dL_wouldDot_150 : decode cL_wouldDot 150 = .ok (.iload_n 3, 1) := by decide +kernel
theorem dL_wouldDot_151 : decode cL_wouldDot 151 = .ok (.iaload, 1) := by decide +kernel
theorem dL_wouldDot_152 : decode cL_wouldDot 152 = .ok (.istore 11, 2) := by decide +kernel
theorem dL_wouldDot_154 : decode cL_wouldDot 154 = .ok (.iload 11, 2) := by decide +kernel
theorem dL_wouldDot_156 : decode cL_wouldDot 156 = .ok (.iload 10, 2) := by decide +kernel
theorem dL_wouldDot_158 : decode cL_wouldDot 158 = .ok (.iadd, 1) := by decide +kernel
theorem dL_wouldDot_159 : decode cL_wouldDot 159 = .ok (.aload_n 2, 1) := by decide +kernel
theorem dL_wouldDot_160 : decode cL_wouldDot 160 = .ok (.iconst 2, 1) := by decide +kernel
theorem dL_wouldDot_161 : decode cL_wouldDot 161 = .ok (.iaload, 1) := by decide +kernel
theorem dL_wouldDot_162 : decode cL_wouldDot 162 = .ok (.if_icmp .le 16, 3) := by decide +kernel
theorem dL_wouldDot_165 : decode cL_wouldDot 165 = .ok (.iload 11, 2) := by decide +kernel
theorem dL_wouldDot_167 : decode cL_wouldDot 167 = .ok (.aload_n 2, 1) := by decide +kernel
theorem dL_wouldDot_168 : decode cL_wouldDot 168 = .ok (.iconst 1, 1) := by decide +kernel
theorem dL_wouldDot_169 : decode cL_wouldDot 169 = .ok (.iaload, 1) := by decide +kernel
theorem dL_wouldDot_170 : decode cL_wouldDot 170 = .ok (.invokestatic 9, 3) := by decide +kernel
theorem dL_wouldDot_173 : decode cL_wouldDot 173 = .ok (.istore 11, 2) := by decide +kernel
theorem dL_wouldDot_175 : decode cL_wouldDot 175 = .ok (.goto (-21), 3) := by decide +kernel
theorem dL_wouldDot_178 : decode cL_wouldDot 178 = .ok (.iload 11, 2) := by decide +kernel
theorem dL_wouldDot_180 : decode cL_wouldDot 180 = .ok (.iload 10, 2) := by decide +kernel
theorem dL_wouldDot_182 : decode cL_wouldDot 182 = .ok (.iadd, 1) := by decide +kernel
theorem dL_wouldDot_183 : decode cL_wouldDot 183 = .ok (.aload_n 2, 1) := by decide +kernel
theorem dL_wouldDot_184 : decode cL_wouldDot 184 = .ok (.invokestatic 31, 3) := by decide +kernel
theorem dL_wouldDot_187 : decode cL_wouldDot 187 = .ok (.if_icmp .ge 7, 3) := by decide +kernel
theorem dL_wouldDot_190 : decode cL_wouldDot 190 = .ok (.iconst (-1), 1) := by decide +kernel
theorem dL_wouldDot_191 : decode cL_wouldDot 191 = .ok (.goto 5, 3) := by decide +kernel
theorem dL_wouldDot_194 : decode cL_wouldDot 194 = .ok (.iload 9, 2) := by decide +kernel
theorem dL_wouldDot_196 : decode cL_wouldDot 196 = .ok (.istore 8, 2) := by decide +kernel
theorem dL_wouldDot_198 : decode cL_wouldDot 198 = .ok (.iinc 9 1, 3) := by decide +kernel
theorem dL_wouldDot_201 : decode cL_wouldDot 201 = .ok (.goto (-75), 3) := by decide +kernel
theorem dL_wouldDot_204 : decode cL_wouldDot 204 = .ok (.aload_n 0, 1) := by decide +kernel
theorem dL_wouldDot_205 : decode cL_wouldDot 205 = .ok (.iload 4, 2) := by decide +kernel
theorem dL_wouldDot_207 : decode cL_wouldDot 207 = .ok (.invokevirtual 72, 3) := by decide +kernel
theorem dL_wouldDot_210 : decode cL_wouldDot 210 = .ok (.iload 5, 2) := by decide +kernel
theorem dL_wouldDot_212 : decode cL_wouldDot 212 = .ok (.if_icmp .ne 17, 3) := by decide +kernel
theorem dL_wouldDot_215 : decode cL_wouldDot 215 = .ok (.aload_n 0, 1) := by decide +kernel
theorem dL_wouldDot_216 : decode cL_wouldDot 216 = .ok (.iload_n 3, 1) := by decide +kernel
theorem dL_wouldDot_217 : decode cL_wouldDot 217 = .ok (.invokevirtual 75, 3) := by decide +kernel
theorem dL_wouldDot_220 : decode cL_wouldDot 220 = .ok (.iload 8, 2) := by decide +kernel
theorem dL_wouldDot_222 : decode cL_wouldDot 222 = .ok (.if_icmp .ne 7, 3) := by decide +kernel
theorem dL_wouldDot_225 : decode cL_wouldDot 225 = .ok (.iconst 1, 1) := by decide +kernel
theorem dL_wouldDot_226 : decode cL_wouldDot 226 = .ok (.goto 4, 3) := by decide +kernel
theorem dL_wouldDot_229 : decode cL_wouldDot 229 = .ok (.iconst 0, 1) := by decide +kernel
theorem dL_wouldDot_230 : decode cL_wouldDot 230 = .ok (.ireturn, 1) := by decide +kernel
set_option maxHeartbeats 4000000 in
set_option maxRecDepth 100000 in
theorem w_L_wouldDot {p : Program} {l : Launch} {e : Env} {s : State} {m : MethodId} {below : List Frame} {meth : Method} {c : Code} {G : GT} {a : Nat → Nat} {b : Nat → Nat} {x : HV} {q : Nat → Nat} {v : SV} {a2 : Nat} {f2 : Nat → Int32} {x2 : Int32} {k1 : Nat} {N : Nat} {H : Heap} {locs : List Loc} {ls : Array Slot} (hC : CX p s m meth c yL_wouldDot cL_wouldDot 12 (some .boolean) ([.ref (a 0), .ref (q 0), .ref (q 4), .int (nI k1), .int x2] : List Value).toArray) (hKN : KN G s s.heap) (hlow : gL G ≤ a2) (hNL : gL G ≤ N) (hA0 : wdN N a2) (hq : hdD G a b) (hqh : ∀ z, hdA a b z → ¬ wdN N z) (hqm : ∀ z, lwA q z → ¬ wdN N z) (hqq : ∀ i, i < 5 → ¬ q i = a2) (hLS : Lgs v) (hk1 : k1 < 24) (hx2 : ¬ x2 < 0) (hc2 : ¬ fX5_isWithin x2 0 900 = 0) (hP2 : PW G (hdW G a b x) s.heap) (hP3 : PW G (lwW G q v) s.heap) (hP : PW G (a1W G a2 24 f2) H) (hS : va_S (wdN N) s.heap H locs) (hl : lv_has ls 12 [(0, .ref (a 0)), (1, .ref (q 0)), (2, .ref (q 4)), (3, .int (nI k1)), (4, .int x2), (5, .int 0), (6, .int 1), (7, .ref a2)]) : W p l e ({ frames := 5, cells := 1, slots := 24, locals := 116 }) s m ([.ref (a 0), .ref (q 0), .ref (q 4), .int (nI k1), .int x2] : List Value).toArray below meth c H locs 1 24 (MQ below (QE (some (.int (fL_wouldDot x v f2 k1 x2).2)) (fun H => (fun _ : Heap => True) H) (wdN N)) ([.ref (a 0), .ref (q 0), .ref (q 4), .int (nI k1), .int x2] : List Value).toArray s 1 24 (wdN N)) (F0 m 12 ls []) := by
  have hAL : ∀ z, wdN N z → gL G ≤ z := fun z h => Nat.le_trans hNL h
  have hA1 : ∀ z, z = a2 → wdN N z := fun z h => by rw [h]; exact hA0
  have hg : fL_wouldDot x v f2 k1 x2 = fL_wouldDot x v f2 k1 x2 := rfl
  refine lv_aload_n hC.1 hC.2.1 dL_wouldDot_12 rfl (lv_at hl 1 rfl) ?_
  refine lv_aload hC.1 hC.2.1 dL_wouldDot_13 (lv_at hl 7 rfl) ?_
  refine runE (rS (B := fun U H => RD (q 0) 24 (v 0) U H ∧ PW G (a1W G a2 24 f2) H) (As := [.ref (q 0), .ref a2]) (rest := []) hC mwL_copy (c_L_copy l G (q 0) 24 (v 0) a2 24 f2 hlow (by decide) (by decide) (hqq 0 (by decide))) wd_428 wd_427 ⟨rfl, rfl⟩ ⟨Nat.le_of_ble_eq_true rfl, Nat.le_of_ble_eq_true rfl⟩ (stb_and (stb_RD _ _ _) (stb_h (fun H => PW G (a1W G a2 24 f2) H))) (hKN.go hAL hS) ⟨(RD.ofP (hKN.go hAL hS) (keepS hP3 hS (lw_na hqm v)) 0 rfl), hP⟩ rfl hl.1 rfl (Nat.le_of_ble_eq_true rfl) dL_wouldDot_15 ⟨Nat.le_refl _, Nat.le_refl _⟩) hS (fun _ h => (hA1 _ h)) (fun _ h => (hA1 _ h)) (fun H locs hq_1 _ hk_3 hS => ?_)
  have hP : PW G (a1W G a2 24 (fL_copy 24 (v 0) 24 f2)) H := hq_1
  have A18 : ∀ (y5_18 : Int32) (y6_18 : Int32) (f_18 : Nat → Int32), fL_wouldDot x v f2 k1 x2 = (tL_wouldDot_18 x v f2 k1 x2 (y5_18, y6_18, f_18)) → ∀ (H : Heap) (locs : List Loc), PW G (a1W G a2 24 f_18) H → va_S (wdN N) s.heap H locs → ∀ (ls : Array Slot), lv_has ls 12 [(0, .ref (a 0)), (1, .ref (q 0)), (2, .ref (q 4)), (3, .int (nI k1)), (4, .int x2), (5, .int y5_18)] → W p l e ({ frames := 5, cells := 1, slots := 24, locals := 116 }) s m ([.ref (a 0), .ref (q 0), .ref (q 4), .int (nI k1), .int x2] : List Value).toArray below meth c H locs 1 24 (MQ below (QE (some (.int (fL_wouldDot x v f2 k1 x2).2)) (fun H => (fun _ : Heap => True) H) (wdN N)) ([.ref (a 0), .ref (q 0), .ref (q 4), .int (nI k1), .int x2] : List Value).toArray s 1 24 (wdN N)) (F0 m 119 ls []) := by
    intro  y5_18 y6_18 f_18 hg H locs hP hS ls hl
    refine lv_iconst (v := (-1)) hC.1 hC.2.1 dL_wouldDot_119 (by decide) ?_
    refine lv_istore (lv' := [(8, .int (-1)), (0, .ref (a 0)), (1, .ref (q 0)), (2, .ref (q 4)), (3, .int (nI k1)), (4, .int x2), (5, .int y5_18)]) hC.1 hC.2.1 dL_wouldDot_120 hl (by decide) rfl (fun ls hl => ?_)
    refine lv_bipush (v := 50) hC.1 hC.2.1 dL_wouldDot_122 (by decide +kernel) ?_
    rw [show 50 = nI 50 from (by decide)]
    refine lv_istore (lv' := [(9, .int (nI 50)), (8, .int (-1)), (0, .ref (a 0)), (1, .ref (q 0)), (2, .ref (q 4)), (3, .int (nI k1)), (4, .int x2), (5, .int y5_18)]) hC.1 hC.2.1 dL_wouldDot_124 hl (by decide) rfl (fun ls hl => ?_)
    have A126 : ∀ (y5_126 : Int32) (f_126 : Nat → Int32), ∀ (y8_126 : Int32), fL_wouldDot x v f2 k1 x2 = (tL_wouldDot_126 x v f2 k1 x2 y5_126 f_126 y8_126) → ∀ (H : Heap) (locs : List Loc), PW G (a1W G a2 24 f_126) H → va_S (wdN N) s.heap H locs → ∀ (ls : Array Slot), lv_has ls 12 [(0, .ref (a 0)), (3, .int (nI k1)), (4, .int x2), (5, .int y5_126), (8, .int y8_126)] → W p l e ({ frames := 5, cells := 1, slots := 24, locals := 116 }) s m ([.ref (a 0), .ref (q 0), .ref (q 4), .int (nI k1), .int x2] : List Value).toArray below meth c H locs 1 24 (MQ below (QE (some (.int (fL_wouldDot x v f2 k1 x2).2)) (fun H => (fun _ : Heap => True) H) (wdN N)) ([.ref (a 0), .ref (q 0), .ref (q 4), .int (nI k1), .int x2] : List Value).toArray s 1 24 (wdN N)) (F0 m 204 ls []) := by
      intro y5_126 f_126 y8_126 hg H locs hP hS ls hl
      refine lv_aload_n hC.1 hC.2.1 dL_wouldDot_204 rfl (lv_at hl 0 rfl) ?_
      refine lv_iload hC.1 hC.2.1 dL_wouldDot_205 (lv_at hl 2 rfl) ?_
      refine runP (rV (B := fun U H => PW G (hdW G a b x) H) (As := [.int x2]) (rest := []) hC mwX5_coolIn (c_X5_coolIn l G a b x x2 hc2) iwX5_coolIn wd_561 ⟨rfl, rfl⟩ ⟨Nat.le_of_ble_eq_true rfl, Nat.le_of_ble_eq_true rfl⟩ (stb_h (fun H => PW G (hdW G a b x) H)) (hKN.go hAL hS) (keepS hP2 hS (hd_na hq hqh x)) (va_recv (hKN.go hAL hS).k (keepS hP2 hS (hd_na hq hqh x)) (ci := 5) (q0 := 0) rfl rfl) rfl hl.1 rfl (Nat.le_of_ble_eq_true rfl) dL_wouldDot_207 ⟨Nat.le_refl _, Nat.le_refl _⟩) ?_
      refine lv_iload hC.1 hC.2.1 dL_wouldDot_210 (lv_at hl 3 rfl) ?_
      refine lv_icmp_ne (tgt := 229) hC.1 hC.2.1 dL_wouldDot_212 (by decide) (fun k212 => ?_) (fun k212 => ?_)
      · refine lv_iconst (v := 0) hC.1 hC.2.1 dL_wouldDot_229 (by decide) ?_
        have e_4 : tL_wouldDot_126 x v f2 k1 x2 y5_126 f_126 y8_126 = (f_126, 0) := by delta tL_wouldDot_126; exact Eq.trans (if_neg k212) rfl
        have hg : fL_wouldDot x v f2 k1 x2 = (f_126, 0) := by have e2 := congrArg (fun z => z) e_4; exact hg.trans e2
        exact eE_z hC (by rw [hg]) rfl trivial hS dL_wouldDot_230
      · refine lv_aload_n hC.1 hC.2.1 dL_wouldDot_215 rfl (lv_at hl 0 rfl) ?_
        refine lv_iload_n hC.1 hC.2.1 dL_wouldDot_216 rfl (lv_at hl 1 rfl) ?_
        refine runP (rV (B := fun U H => PW G (hdW G a b x) H) (As := [.int (nI k1)]) (rest := []) hC mwX5_darkFrom (c_X5_darkFrom l G a b x (nI k1) (isDot_n hk1)) iwX5_darkFrom wd_571 ⟨rfl, rfl⟩ ⟨Nat.le_of_ble_eq_true rfl, Nat.le_of_ble_eq_true rfl⟩ (stb_h (fun H => PW G (hdW G a b x) H)) (hKN.go hAL hS) (keepS hP2 hS (hd_na hq hqh x)) (va_recv (hKN.go hAL hS).k (keepS hP2 hS (hd_na hq hqh x)) (ci := 5) (q0 := 0) rfl rfl) rfl hl.1 rfl (Nat.le_of_ble_eq_true rfl) dL_wouldDot_217 ⟨Nat.le_refl _, Nat.le_refl _⟩) ?_
        refine lv_iload hC.1 hC.2.1 dL_wouldDot_220 (lv_at hl 4 rfl) ?_
        refine lv_icmp_ne (tgt := 229) hC.1 hC.2.1 dL_wouldDot_222 (by decide) (fun k222 => ?_) (fun k222 => ?_)
        · refine lv_iconst (v := 0) hC.1 hC.2.1 dL_wouldDot_229 (by decide) ?_
          have e_5 : tL_wouldDot_126 x v f2 k1 x2 y5_126 f_126 y8_126 = (f_126, 0) := by delta tL_wouldDot_126; exact Eq.trans (if_pos k212) (Eq.trans (if_neg k222) rfl)
          have hg : fL_wouldDot x v f2 k1 x2 = (f_126, 0) := by have e2 := congrArg (fun z => z) e_5; exact hg.trans e2
          exact eE_z hC (by rw [hg]) rfl trivial hS dL_wouldDot_230
        · refine lv_iconst (v := 1) hC.1 hC.2.1 dL_wouldDot_225 (by decide) ?_
          refine lv_goto (tgt := 230) hC.1 hC.2.1 dL_wouldDot_226 (by decide) ?_
          have e_6 : tL_wouldDot_126 x v f2 k1 x2 y5_126 f_126 y8_126 = (f_126, 1) := by delta tL_wouldDot_126; exact Eq.trans (if_pos k212) (Eq.trans (if_pos k222) rfl)
          have hg : fL_wouldDot x v f2 k1 x2 = (f_126, 1) := by have e2 := congrArg (fun z => z) e_6; exact hg.trans e2
          exact eE_z hC (by rw [hg]) rfl trivial hS dL_wouldDot_230
    have L126 : ∀ (y5_126 : Int32) (f_126 : Nat → Int32), ∀ (n126 d126 : Nat), ∀ (y8_126 : Int32), d126 + n126 = 301 → fL_wouldDot x v f2 k1 x2 = (Sum.elim (tL_wouldDot_126 x v f2 k1 x2 y5_126 f_126) (tL_wouldDot_126 x v f2 k1 x2 y5_126 f_126) (lpR n126 d126 (bL_wouldDot_126 x v f2 k1 x2 y5_126 f_126) y8_126)) → ∀ (H : Heap) (locs : List Loc), PW G (a1W G a2 24 f_126) H → va_S (wdN N) s.heap H locs → ∀ (ls : Array Slot), lv_has ls 12 [(0, .ref (a 0)), (1, .ref (q 0)), (2, .ref (q 4)), (3, .int (nI k1)), (4, .int x2), (5, .int y5_126), (8, .int y8_126), (9, .int (nI d126))] → W p l e ({ frames := 5, cells := 1, slots := 24, locals := 116 }) s m ([.ref (a 0), .ref (q 0), .ref (q 4), .int (nI k1), .int x2] : List Value).toArray below meth c H locs 1 24 (MQ below (QE (some (.int (fL_wouldDot x v f2 k1 x2).2)) (fun H => (fun _ : Heap => True) H) (wdN N)) ([.ref (a 0), .ref (q 0), .ref (q 4), .int (nI k1), .int x2] : List Value).toArray s 1 24 (wdN N)) (F0 m 126 ls []) := by
      intro y5_126 f_126
      intro n126
      induction n126 with
      | zero =>
        intro d126 y8_126 hd hg H locs hP hS ls hl
        refine lv_iload hC.1 hC.2.1 dL_wouldDot_126 (lv_at hl 7 rfl) ?_
        refine lv_sipush (v := 300) hC.1 hC.2.1 dL_wouldDot_128 (by decide +kernel) ?_
        rw [show 300 = nI 300 from (by decide)]
        refine lv_icmp_gt (tgt := 204) hC.1 hC.2.1 dL_wouldDot_131 (by decide) (fun k131 => ?_) (fun k131 => ?_)
        · exact A126 y5_126 f_126 y8_126 hg _ _ hP hS _ (lv_sub hl [0, 3, 4, 5, 6] rfl)
        · exact absurd (nI_lt (a := 300) (b := d126) (by omega) (by omega)) k131
      | succ n126 ih =>
        intro d126 y8_126 hd hg H locs hP hS ls hl
        have hg : fL_wouldDot x v f2 k1 x2 = (Sum.elim (tL_wouldDot_126 x v f2 k1 x2 y5_126 f_126) (tL_wouldDot_126 x v f2 k1 x2 y5_126 f_126) (lpRs n126 d126 (bL_wouldDot_126 x v f2 k1 x2 y5_126 f_126) (bL_wouldDot_126 x v f2 k1 x2 y5_126 f_126 d126 y8_126))) := hg
        refine lv_iload hC.1 hC.2.1 dL_wouldDot_126 (lv_at hl 7 rfl) ?_
        refine lv_sipush (v := 300) hC.1 hC.2.1 dL_wouldDot_128 (by decide +kernel) ?_
        rw [show 300 = nI 300 from (by decide)]
        refine lv_icmp_gt (tgt := 204) hC.1 hC.2.1 dL_wouldDot_131 (by decide) (fun k131 => ?_) (fun k131 => ?_)
        · exact absurd k131 (nI_nlt (b := d126) (a := 300) (by omega) (by omega))
        · refine lv_iload hC.1 hC.2.1 dL_wouldDot_134 (lv_at hl 6 rfl) ?_
          refine lv_if_ge (tgt := 204) hC.1 hC.2.1 dL_wouldDot_136 (by decide) (fun k136 => ?_) (fun k136 => ?_)
          · have e_7 : bL_wouldDot_126 x v f2 k1 x2 y5_126 f_126 d126 y8_126 = Sum.inr y8_126 := by delta bL_wouldDot_126; exact Eq.trans (if_pos k136) rfl
            have hg : fL_wouldDot x v f2 k1 x2 = (tL_wouldDot_126 x v f2 k1 x2 y5_126 f_126 y8_126) := by have e2 := congrArg (fun z => (Sum.elim (tL_wouldDot_126 x v f2 k1 x2 y5_126 f_126) (tL_wouldDot_126 x v f2 k1 x2 y5_126 f_126) (lpRs n126 d126 (bL_wouldDot_126 x v f2 k1 x2 y5_126 f_126) z))) e_7; exact hg.trans e2
            exact A126 y5_126 f_126 y8_126 hg _ _ hP hS _ (lv_sub hl [0, 3, 4, 5, 6] rfl)
          · refine lv_aload_n hC.1 hC.2.1 dL_wouldDot_139 rfl (lv_at hl 2 rfl) ?_
            refine lv_iconst (v := 0) hC.1 hC.2.1 dL_wouldDot_140 (by decide) ?_
            refine lv_iload_n hC.1 hC.2.1 dL_wouldDot_141 rfl (lv_at hl 3 rfl) ?_
            refine lv_iload hC.1 hC.2.1 dL_wouldDot_142 (lv_at hl 7 rfl) ?_
            refine runP (rS (B := fun U H => PW G (lwW G q v) H) (As := [.ref (q 4), .int 0, .int (nI k1), .int (nI d126)]) (rest := []) hC mwL_pulse (c_L_pulse l G q v 0 (nI k1) (nI d126)) wd_226 wd_225 ⟨rfl, rfl⟩ ⟨Nat.le_of_ble_eq_true rfl, Nat.le_of_ble_eq_true rfl⟩ (stb_h (fun H => PW G (lwW G q v) H)) (hKN.go hAL hS) (keepS hP3 hS (lw_na hqm v)) rfl hl.1 rfl (Nat.le_of_ble_eq_true rfl) dL_wouldDot_144 ⟨Nat.le_refl _, Nat.le_refl _⟩) ?_
            refine lv_istore (lv' := [(10, .int (fL_pulse v 0 (nI k1) (nI d126))), (0, .ref (a 0)), (1, .ref (q 0)), (2, .ref (q 4)), (3, .int (nI k1)), (4, .int x2), (5, .int y5_126), (8, .int y8_126), (9, .int (nI d126))]) hC.1 hC.2.1 dL_wouldDot_147 hl (by decide) rfl (fun ls hl => ?_)
            refine lv_aload_n hC.1 hC.2.1 dL_wouldDot_149 rfl (lv_at hl 2 rfl) ?_
            refine lv_iload_n hC.1 hC.2.1 dL_wouldDot_150 rfl (lv_at hl 4 rfl) ?_
            refine iald_k hC (hKN.go hAL hS) (keepS hP3 hS (lw_na hqm v)) 0 rfl (n := 24) (f := (v 0)) k1 (rfl) (by omega) (by first | decide | omega) dL_wouldDot_151 ?_
            refine lv_istore (lv' := [(11, .int ((v 0) k1)), (10, .int (fL_pulse v 0 (nI k1) (nI d126))), (0, .ref (a 0)), (1, .ref (q 0)), (2, .ref (q 4)), (3, .int (nI k1)), (4, .int x2), (5, .int y5_126), (8, .int y8_126), (9, .int (nI d126))]) hC.1 hC.2.1 dL_wouldDot_152 hl (by decide) rfl (fun ls hl => ?_)
            have A154 : ∀ (y10_154 : Int32), ∀ (y11_154 : Int32), fL_wouldDot x v f2 k1 x2 = (Sum.elim (tL_wouldDot_126 x v f2 k1 x2 y5_126 f_126) (tL_wouldDot_126 x v f2 k1 x2 y5_126 f_126) (lpRs n126 d126 (bL_wouldDot_126 x v f2 k1 x2 y5_126 f_126) (tL_wouldDot_154 x v f2 k1 x2 y5_126 f_126 d126 y10_154 y11_154))) → ∀ (H : Heap) (locs : List Loc), PW G (a1W G a2 24 f_126) H → va_S (wdN N) s.heap H locs → ∀ (ls : Array Slot), lv_has ls 12 [(0, .ref (a 0)), (1, .ref (q 0)), (2, .ref (q 4)), (3, .int (nI k1)), (4, .int x2), (5, .int y5_126), (9, .int (nI d126)), (10, .int y10_154), (11, .int y11_154)] → W p l e ({ frames := 5, cells := 1, slots := 24, locals := 116 }) s m ([.ref (a 0), .ref (q 0), .ref (q 4), .int (nI k1), .int x2] : List Value).toArray below meth c H locs 1 24 (MQ below (QE (some (.int (fL_wouldDot x v f2 k1 x2).2)) (fun H => (fun _ : Heap => True) H) (wdN N)) ([.ref (a 0), .ref (q 0), .ref (q 4), .int (nI k1), .int x2] : List Value).toArray s 1 24 (wdN N)) (F0 m 178 ls []) := by
              intro y10_154 y11_154 hg H locs hP hS ls hl
              refine lv_iload hC.1 hC.2.1 dL_wouldDot_178 (lv_at hl 8 rfl) ?_
              refine lv_iload hC.1 hC.2.1 dL_wouldDot_180 (lv_at hl 7 rfl) ?_
              refine lv_iadd hC.1 hC.2.1 dL_wouldDot_182 ?_
              refine lv_aload_n hC.1 hC.2.1 dL_wouldDot_183 rfl (lv_at hl 2 rfl) ?_
              refine runP (rS (B := fun U H => PW G (lwW G q v) H) (As := [.ref (q 4)]) (rest := [.int (y11_154 + y10_154)]) hC mwL_dark (c_L_dark l G q v) wd_443 wd_442 ⟨rfl, rfl⟩ ⟨Nat.le_of_ble_eq_true rfl, Nat.le_of_ble_eq_true rfl⟩ (stb_h (fun H => PW G (lwW G q v) H)) (hKN.go hAL hS) (keepS hP3 hS (lw_na hqm v)) rfl hl.1 rfl (Nat.le_of_ble_eq_true rfl) dL_wouldDot_184 ⟨Nat.le_refl _, Nat.le_refl _⟩) ?_
              have J196 : ∀ (z0_196 : Int32), fL_wouldDot x v f2 k1 x2 = (Sum.elim (tL_wouldDot_126 x v f2 k1 x2 y5_126 f_126) (tL_wouldDot_126 x v f2 k1 x2 y5_126 f_126) (lpRs n126 d126 (bL_wouldDot_126 x v f2 k1 x2 y5_126 f_126) (tL_wouldDot_J196 x v f2 k1 x2 y5_126 f_126 d126 z0_196))) → ∀ (H : Heap) (locs : List Loc), PW G (a1W G a2 24 f_126) H → va_S (wdN N) s.heap H locs → ∀ (ls : Array Slot), lv_has ls 12 [(0, .ref (a 0)), (1, .ref (q 0)), (2, .ref (q 4)), (3, .int (nI k1)), (4, .int x2), (5, .int y5_126), (9, .int (nI d126))] → W p l e ({ frames := 5, cells := 1, slots := 24, locals := 116 }) s m ([.ref (a 0), .ref (q 0), .ref (q 4), .int (nI k1), .int x2] : List Value).toArray below meth c H locs 1 24 (MQ below (QE (some (.int (fL_wouldDot x v f2 k1 x2).2)) (fun H => (fun _ : Heap => True) H) (wdN N)) ([.ref (a 0), .ref (q 0), .ref (q 4), .int (nI k1), .int x2] : List Value).toArray s 1 24 (wdN N)) (F0 m 196 ls [.int z0_196]) := by
                intro z0_196 hg H locs hP hS ls hl
                refine lv_istore (lv' := [(8, .int z0_196), (0, .ref (a 0)), (1, .ref (q 0)), (2, .ref (q 4)), (3, .int (nI k1)), (4, .int x2), (5, .int y5_126), (9, .int (nI d126))]) hC.1 hC.2.1 dL_wouldDot_196 hl (by decide) rfl (fun ls hl => ?_)
                refine lv_iinc (v := nI (d126 + 1)) (lv' := [(9, .int (nI (d126 + 1))), (8, .int z0_196), (0, .ref (a 0)), (1, .ref (q 0)), (2, .ref (q 4)), (3, .int (nI k1)), (4, .int x2), (5, .int y5_126)]) hC.1 hC.2.1 dL_wouldDot_198 hl (k := 7) rfl (nI_1 _) (by decide) rfl (fun ls hl => ?_)
                refine lv_goto (tgt := 126) hC.1 hC.2.1 dL_wouldDot_201 (by decide) ?_
                have e_8 : tL_wouldDot_J196 x v f2 k1 x2 y5_126 f_126 d126 z0_196 = Sum.inl z0_196 := by delta tL_wouldDot_J196; exact rfl
                have hg : fL_wouldDot x v f2 k1 x2 = (Sum.elim (tL_wouldDot_126 x v f2 k1 x2 y5_126 f_126) (tL_wouldDot_126 x v f2 k1 x2 y5_126 f_126) (lpR n126 (d126 + 1) (bL_wouldDot_126 x v f2 k1 x2 y5_126 f_126) z0_196)) := by have e2 := congrArg (fun z => (Sum.elim (tL_wouldDot_126 x v f2 k1 x2 y5_126 f_126) (tL_wouldDot_126 x v f2 k1 x2 y5_126 f_126) (lpRs n126 d126 (bL_wouldDot_126 x v f2 k1 x2 y5_126 f_126) z))) e_8; exact hg.trans e2
                exact ih (d126 + 1) z0_196 (by omega) hg _ _ hP hS _ (lv_sub hl [2, 3, 4, 5, 6, 7, 1, 0] rfl)
              refine lv_icmp_ge (tgt := 194) hC.1 hC.2.1 dL_wouldDot_187 (by decide) (fun k187 => ?_) (fun k187 => ?_)
              · refine lv_iload hC.1 hC.2.1 dL_wouldDot_194 (lv_at hl 6 rfl) ?_
                have e_9 : tL_wouldDot_154 x v f2 k1 x2 y5_126 f_126 d126 y10_154 y11_154 = tL_wouldDot_J196 x v f2 k1 x2 y5_126 f_126 d126 (nI d126) := by delta tL_wouldDot_154; exact Eq.trans (if_pos k187) rfl
                have hg : fL_wouldDot x v f2 k1 x2 = (Sum.elim (tL_wouldDot_126 x v f2 k1 x2 y5_126 f_126) (tL_wouldDot_126 x v f2 k1 x2 y5_126 f_126) (lpRs n126 d126 (bL_wouldDot_126 x v f2 k1 x2 y5_126 f_126) (tL_wouldDot_J196 x v f2 k1 x2 y5_126 f_126 d126 (nI d126)))) := by have e2 := congrArg (fun z => (Sum.elim (tL_wouldDot_126 x v f2 k1 x2 y5_126 f_126) (tL_wouldDot_126 x v f2 k1 x2 y5_126 f_126) (lpRs n126 d126 (bL_wouldDot_126 x v f2 k1 x2 y5_126 f_126) z))) e_9; exact hg.trans e2
                exact J196 (nI d126) hg _ _ hP hS _ (lv_sub hl [0, 1, 2, 3, 4, 5, 6] rfl)
              · refine lv_iconst (v := (-1)) hC.1 hC.2.1 dL_wouldDot_190 (by decide) ?_
                refine lv_goto (tgt := 196) hC.1 hC.2.1 dL_wouldDot_191 (by decide) ?_
                have e_10 : tL_wouldDot_154 x v f2 k1 x2 y5_126 f_126 d126 y10_154 y11_154 = tL_wouldDot_J196 x v f2 k1 x2 y5_126 f_126 d126 (-1) := by delta tL_wouldDot_154; exact Eq.trans (if_neg k187) rfl
                have hg : fL_wouldDot x v f2 k1 x2 = (Sum.elim (tL_wouldDot_126 x v f2 k1 x2 y5_126 f_126) (tL_wouldDot_126 x v f2 k1 x2 y5_126 f_126) (lpRs n126 d126 (bL_wouldDot_126 x v f2 k1 x2 y5_126 f_126) (tL_wouldDot_J196 x v f2 k1 x2 y5_126 f_126 d126 (-1)))) := by have e2 := congrArg (fun z => (Sum.elim (tL_wouldDot_126 x v f2 k1 x2 y5_126 f_126) (tL_wouldDot_126 x v f2 k1 x2 y5_126 f_126) (lpRs n126 d126 (bL_wouldDot_126 x v f2 k1 x2 y5_126 f_126) z))) e_10; exact hg.trans e2
                exact J196 (-1) hg _ _ hP hS _ (lv_sub hl [0, 1, 2, 3, 4, 5, 6] rfl)
            have L154 : ∀ (y10_154 : Int32), ∀ (n154 : Nat), ∀ (y11_154 : Int32), lpT n154 (bL_wouldDot_154 x v f2 k1 x2 y5_126 f_126 d126 y10_154) y11_154 → fL_wouldDot x v f2 k1 x2 = (Sum.elim (tL_wouldDot_126 x v f2 k1 x2 y5_126 f_126) (tL_wouldDot_126 x v f2 k1 x2 y5_126 f_126) (lpRs n126 d126 (bL_wouldDot_126 x v f2 k1 x2 y5_126 f_126) (tL_wouldDot_154 x v f2 k1 x2 y5_126 f_126 d126 y10_154 (lpB n154 (bL_wouldDot_154 x v f2 k1 x2 y5_126 f_126 d126 y10_154) y11_154)))) → ∀ (H : Heap) (locs : List Loc), PW G (a1W G a2 24 f_126) H → va_S (wdN N) s.heap H locs → ∀ (ls : Array Slot), lv_has ls 12 [(0, .ref (a 0)), (1, .ref (q 0)), (2, .ref (q 4)), (3, .int (nI k1)), (4, .int x2), (5, .int y5_126), (9, .int (nI d126)), (10, .int y10_154), (11, .int y11_154)] → W p l e ({ frames := 5, cells := 1, slots := 24, locals := 116 }) s m ([.ref (a 0), .ref (q 0), .ref (q 4), .int (nI k1), .int x2] : List Value).toArray below meth c H locs 1 24 (MQ below (QE (some (.int (fL_wouldDot x v f2 k1 x2).2)) (fun H => (fun _ : Heap => True) H) (wdN N)) ([.ref (a 0), .ref (q 0), .ref (q 4), .int (nI k1), .int x2] : List Value).toArray s 1 24 (wdN N)) (F0 m 154 ls []) := by
              intro y10_154
              intro n154
              induction n154 with
              | zero =>
                intro y11_154 hT
                exact hT.elim
              | succ n154 ih =>
                intro y11_154 hT hg H locs hP hS ls hl
                have hg : fL_wouldDot x v f2 k1 x2 = (Sum.elim (tL_wouldDot_126 x v f2 k1 x2 y5_126 f_126) (tL_wouldDot_126 x v f2 k1 x2 y5_126 f_126) (lpRs n126 d126 (bL_wouldDot_126 x v f2 k1 x2 y5_126 f_126) (tL_wouldDot_154 x v f2 k1 x2 y5_126 f_126 d126 y10_154 (lpBs n154 (bL_wouldDot_154 x v f2 k1 x2 y5_126 f_126 d126 y10_154) (bL_wouldDot_154 x v f2 k1 x2 y5_126 f_126 d126 y10_154 y11_154))))) := hg
                have hT : lpTs n154 (bL_wouldDot_154 x v f2 k1 x2 y5_126 f_126 d126 y10_154) (bL_wouldDot_154 x v f2 k1 x2 y5_126 f_126 d126 y10_154 y11_154) := hT
                refine lv_iload hC.1 hC.2.1 dL_wouldDot_154 (lv_at hl 8 rfl) ?_
                refine lv_iload hC.1 hC.2.1 dL_wouldDot_156 (lv_at hl 7 rfl) ?_
                refine lv_iadd hC.1 hC.2.1 dL_wouldDot_158 ?_
                refine lv_aload_n hC.1 hC.2.1 dL_wouldDot_159 rfl (lv_at hl 2 rfl) ?_
                refine lv_iconst (v := 2) hC.1 hC.2.1 dL_wouldDot_160 (by decide) ?_
                refine iald_k hC (hKN.go hAL hS) (keepS hP3 hS (lw_na hqm v)) 4 rfl (n := 21) (f := (v 4)) 2 (rfl) (by omega) (by first | decide | omega) dL_wouldDot_161 ?_
                refine lv_icmp_le (tgt := 178) hC.1 hC.2.1 dL_wouldDot_162 (by decide) (fun k162 => ?_) (fun k162 => ?_)
                · have e_11 : bL_wouldDot_154 x v f2 k1 x2 y5_126 f_126 d126 y10_154 y11_154 = (false, y11_154) := by delta bL_wouldDot_154; exact Eq.trans (if_pos k162) rfl
                  have hg : fL_wouldDot x v f2 k1 x2 = (Sum.elim (tL_wouldDot_126 x v f2 k1 x2 y5_126 f_126) (tL_wouldDot_126 x v f2 k1 x2 y5_126 f_126) (lpRs n126 d126 (bL_wouldDot_126 x v f2 k1 x2 y5_126 f_126) (tL_wouldDot_154 x v f2 k1 x2 y5_126 f_126 d126 y10_154 y11_154))) := by have e2 := congrArg (fun z => (Sum.elim (tL_wouldDot_126 x v f2 k1 x2 y5_126 f_126) (tL_wouldDot_126 x v f2 k1 x2 y5_126 f_126) (lpRs n126 d126 (bL_wouldDot_126 x v f2 k1 x2 y5_126 f_126) (tL_wouldDot_154 x v f2 k1 x2 y5_126 f_126 d126 y10_154 (lpBs n154 (bL_wouldDot_154 x v f2 k1 x2 y5_126 f_126 d126 y10_154) z))))) e_11; exact hg.trans e2
                  have hT : lpTs n154 (bL_wouldDot_154 x v f2 k1 x2 y5_126 f_126 d126 y10_154) (false, y11_154) := by rw [← e_11]; exact hT
                  exact A154 y10_154 y11_154 hg _ _ hP hS _ (lv_sub hl [0, 1, 2, 3, 4, 5, 6, 7, 8] rfl)
                · refine lv_iload hC.1 hC.2.1 dL_wouldDot_165 (lv_at hl 8 rfl) ?_
                  refine lv_aload_n hC.1 hC.2.1 dL_wouldDot_167 rfl (lv_at hl 2 rfl) ?_
                  refine lv_iconst (v := 1) hC.1 hC.2.1 dL_wouldDot_168 (by decide) ?_
                  refine iald_k hC (hKN.go hAL hS) (keepS hP3 hS (lw_na hqm v)) 4 rfl (n := 21) (f := (v 4)) 1 (rfl) (by omega) (by first | decide | omega) dL_wouldDot_169 ?_
                  refine runP (rS (B := fun U H => True) (As := [.int y11_154, .int ((v 4) 1)]) (rest := []) hC mwL_less (c_L_less l G y11_154 ((v 4) 1) (LS_1 hLS)) wd_229 wd_228 ⟨rfl, rfl⟩ ⟨Nat.le_of_ble_eq_true rfl, Nat.le_of_ble_eq_true rfl⟩ (fun _ _ _ _ h => h) (hKN.go hAL hS) trivial rfl hl.1 rfl (Nat.le_of_ble_eq_true rfl) dL_wouldDot_170 ⟨Nat.le_refl _, Nat.le_refl _⟩) ?_
                  refine lv_istore (lv' := [(11, .int (fL_less y11_154 ((v 4) 1))), (0, .ref (a 0)), (1, .ref (q 0)), (2, .ref (q 4)), (3, .int (nI k1)), (4, .int x2), (5, .int y5_126), (9, .int (nI d126)), (10, .int y10_154)]) hC.1 hC.2.1 dL_wouldDot_173 hl (by decide) rfl (fun ls hl => ?_)
                  refine lv_goto (tgt := 154) hC.1 hC.2.1 dL_wouldDot_175 (by decide) ?_
                  have e_12 : bL_wouldDot_154 x v f2 k1 x2 y5_126 f_126 d126 y10_154 y11_154 = (true, fL_less y11_154 ((v 4) 1)) := by delta bL_wouldDot_154; exact Eq.trans (if_neg k162) rfl
                  have hg : fL_wouldDot x v f2 k1 x2 = (Sum.elim (tL_wouldDot_126 x v f2 k1 x2 y5_126 f_126) (tL_wouldDot_126 x v f2 k1 x2 y5_126 f_126) (lpRs n126 d126 (bL_wouldDot_126 x v f2 k1 x2 y5_126 f_126) (tL_wouldDot_154 x v f2 k1 x2 y5_126 f_126 d126 y10_154 (lpB n154 (bL_wouldDot_154 x v f2 k1 x2 y5_126 f_126 d126 y10_154) (fL_less y11_154 ((v 4) 1)))))) := by have e2 := congrArg (fun z => (Sum.elim (tL_wouldDot_126 x v f2 k1 x2 y5_126 f_126) (tL_wouldDot_126 x v f2 k1 x2 y5_126 f_126) (lpRs n126 d126 (bL_wouldDot_126 x v f2 k1 x2 y5_126 f_126) (tL_wouldDot_154 x v f2 k1 x2 y5_126 f_126 d126 y10_154 (lpBs n154 (bL_wouldDot_154 x v f2 k1 x2 y5_126 f_126 d126 y10_154) z))))) e_12; exact hg.trans e2
                  have hT : lpTs n154 (bL_wouldDot_154 x v f2 k1 x2 y5_126 f_126 d126 y10_154) (true, fL_less y11_154 ((v 4) 1)) := by rw [← e_12]; exact hT
                  exact ih (fL_less y11_154 ((v 4) 1)) (lpT_go hT) hg _ _ hP hS _ (lv_sub hl [1, 2, 3, 4, 5, 6, 7, 8, 0] rfl)
            have e_13 : bL_wouldDot_126 x v f2 k1 x2 y5_126 f_126 d126 y8_126 = tL_wouldDot_154 x v f2 k1 x2 y5_126 f_126 d126 (fL_pulse v 0 (nI k1) (nI d126)) (lpB (mT + 1) (bL_wouldDot_154 x v f2 k1 x2 y5_126 f_126 d126 (fL_pulse v 0 (nI k1) (nI d126))) ((v 0) k1)) := by delta bL_wouldDot_126; exact Eq.trans (if_neg k136) rfl
            have hg : fL_wouldDot x v f2 k1 x2 = (Sum.elim (tL_wouldDot_126 x v f2 k1 x2 y5_126 f_126) (tL_wouldDot_126 x v f2 k1 x2 y5_126 f_126) (lpRs n126 d126 (bL_wouldDot_126 x v f2 k1 x2 y5_126 f_126) (tL_wouldDot_154 x v f2 k1 x2 y5_126 f_126 d126 (fL_pulse v 0 (nI k1) (nI d126)) (lpB (mT + 1) (bL_wouldDot_154 x v f2 k1 x2 y5_126 f_126 d126 (fL_pulse v 0 (nI k1) (nI d126))) ((v 0) k1))))) := by have e2 := congrArg (fun z => (Sum.elim (tL_wouldDot_126 x v f2 k1 x2 y5_126 f_126) (tL_wouldDot_126 x v f2 k1 x2 y5_126 f_126) (lpRs n126 d126 (bL_wouldDot_126 x v f2 k1 x2 y5_126 f_126) z))) e_13; exact hg.trans e2
            exact L154 (fL_pulse v 0 (nI k1) (nI d126)) (mT + 1) ((v 0) k1) ((T_wd154 hLS hk1 (by omega) _)) hg _ _ hP hS _ (lv_sub hl [2, 3, 4, 5, 6, 7, 9, 1, 0] rfl)
    have e_14 : tL_wouldDot_18 x v f2 k1 x2 (y5_18, y6_18, f_18) = Sum.elim (tL_wouldDot_126 x v f2 k1 x2 y5_18 f_18) (tL_wouldDot_126 x v f2 k1 x2 y5_18 f_18) (lpR (301 - 50) 50 (bL_wouldDot_126 x v f2 k1 x2 y5_18 f_18) (-1)) := by delta tL_wouldDot_18; exact rfl
    have hg : fL_wouldDot x v f2 k1 x2 = (Sum.elim (tL_wouldDot_126 x v f2 k1 x2 y5_18 f_18) (tL_wouldDot_126 x v f2 k1 x2 y5_18 f_18) (lpR (301 - 50) 50 (bL_wouldDot_126 x v f2 k1 x2 y5_18 f_18) (-1))) := by have e2 := congrArg (fun z => z) e_14; exact hg.trans e2
    exact L126 y5_18 f_18 (301 - 50) 50 (-1) (by omega) hg _ _ hP hS _ (lv_sub hl [2, 3, 4, 5, 6, 7, 1, 0] rfl)
  have L18 : ∀ (n18 : Nat), ∀ (y5_18 : Int32) (y6_18 : Int32) (f_18 : Nat → Int32), lpT n18 (bL_wouldDot_18 x v f2 k1 x2) (y5_18, y6_18, f_18) → fL_wouldDot x v f2 k1 x2 = (tL_wouldDot_18 x v f2 k1 x2 (lpB n18 (bL_wouldDot_18 x v f2 k1 x2) (y5_18, y6_18, f_18))) → ∀ (H : Heap) (locs : List Loc), PW G (a1W G a2 24 f_18) H → va_S (wdN N) s.heap H locs → ∀ (ls : Array Slot), lv_has ls 12 [(0, .ref (a 0)), (1, .ref (q 0)), (2, .ref (q 4)), (3, .int (nI k1)), (4, .int x2), (5, .int y5_18), (6, .int y6_18), (7, .ref a2)] → W p l e ({ frames := 5, cells := 1, slots := 24, locals := 116 }) s m ([.ref (a 0), .ref (q 0), .ref (q 4), .int (nI k1), .int x2] : List Value).toArray below meth c H locs 1 24 (MQ below (QE (some (.int (fL_wouldDot x v f2 k1 x2).2)) (fun H => (fun _ : Heap => True) H) (wdN N)) ([.ref (a 0), .ref (q 0), .ref (q 4), .int (nI k1), .int x2] : List Value).toArray s 1 24 (wdN N)) (F0 m 18 ls []) := by
    intro n18
    induction n18 with
    | zero =>
      intro y5_18 y6_18 f_18 hT
      exact hT.elim
    | succ n18 ih =>
      intro y5_18 y6_18 f_18 hT hg H locs hP hS ls hl
      have hg : fL_wouldDot x v f2 k1 x2 = (tL_wouldDot_18 x v f2 k1 x2 (lpBs n18 (bL_wouldDot_18 x v f2 k1 x2) (bL_wouldDot_18 x v f2 k1 x2 (y5_18, y6_18, f_18)))) := hg
      have hT : lpTs n18 (bL_wouldDot_18 x v f2 k1 x2) (bL_wouldDot_18 x v f2 k1 x2 (y5_18, y6_18, f_18)) := hT
      refine lv_iload hC.1 hC.2.1 dL_wouldDot_18 (lv_at hl 6 rfl) ?_
      refine lv_if_eq (tgt := 119) hC.1 hC.2.1 dL_wouldDot_20 (by decide) (fun k20 => ?_) (fun k20 => ?_)
      · have e_15 : bL_wouldDot_18 x v f2 k1 x2 (y5_18, y6_18, f_18) = (false, (y5_18, y6_18, f_18)) := by delta bL_wouldDot_18; exact Eq.trans (if_pos k20) rfl
        have hg : fL_wouldDot x v f2 k1 x2 = (tL_wouldDot_18 x v f2 k1 x2 (y5_18, y6_18, f_18)) := by have e2 := congrArg (fun z => (tL_wouldDot_18 x v f2 k1 x2 (lpBs n18 (bL_wouldDot_18 x v f2 k1 x2) z))) e_15; exact hg.trans e2
        have hT : lpTs n18 (bL_wouldDot_18 x v f2 k1 x2) (false, (y5_18, y6_18, f_18)) := by rw [← e_15]; exact hT
        exact A18  y5_18 y6_18 f_18 hg _ _ hP hS _ (lv_sub hl [0, 1, 2, 3, 4, 5] rfl)
      · refine lv_iconst (v := 0) hC.1 hC.2.1 dL_wouldDot_23 (by decide) ?_
        refine lv_istore (lv' := [(6, .int 0), (0, .ref (a 0)), (1, .ref (q 0)), (2, .ref (q 4)), (3, .int (nI k1)), (4, .int x2), (5, .int y5_18), (7, .ref a2)]) hC.1 hC.2.1 dL_wouldDot_24 hl (by decide) rfl (fun ls hl => ?_)
        refine lv_iconst (v := 0) hC.1 hC.2.1 dL_wouldDot_26 (by decide) ?_
        refine lv_istore (lv' := [(8, .int 0), (6, .int 0), (0, .ref (a 0)), (1, .ref (q 0)), (2, .ref (q 4)), (3, .int (nI k1)), (4, .int x2), (5, .int y5_18), (7, .ref a2)]) hC.1 hC.2.1 dL_wouldDot_27 hl (by decide) rfl (fun ls hl => ?_)
        have A29 : ∀ (y5_29 : Int32) (f_29 : Nat → Int32), ∀ (y6_29 : Int32), fL_wouldDot x v f2 k1 x2 = (tL_wouldDot_18 x v f2 k1 x2 (lpBs n18 (bL_wouldDot_18 x v f2 k1 x2) (tL_wouldDot_29 x v f2 k1 x2 y5_29 f_29 y6_29))) → lpTs n18 (bL_wouldDot_18 x v f2 k1 x2) (tL_wouldDot_29 x v f2 k1 x2 y5_29 f_29 y6_29) → ∀ (H : Heap) (locs : List Loc), PW G (a1W G a2 24 f_29) H → va_S (wdN N) s.heap H locs → ∀ (ls : Array Slot), lv_has ls 12 [(0, .ref (a 0)), (1, .ref (q 0)), (2, .ref (q 4)), (3, .int (nI k1)), (4, .int x2), (5, .int y5_29), (6, .int y6_29), (7, .ref a2)] → W p l e ({ frames := 5, cells := 1, slots := 24, locals := 116 }) s m ([.ref (a 0), .ref (q 0), .ref (q 4), .int (nI k1), .int x2] : List Value).toArray below meth c H locs 1 24 (MQ below (QE (some (.int (fL_wouldDot x v f2 k1 x2).2)) (fun H => (fun _ : Heap => True) H) (wdN N)) ([.ref (a 0), .ref (q 0), .ref (q 4), .int (nI k1), .int x2] : List Value).toArray s 1 24 (wdN N)) (F0 m 64 ls []) := by
          intro y5_29 f_29 y6_29 hg hT H locs hP hS ls hl
          refine lv_iconst (v := 0) hC.1 hC.2.1 dL_wouldDot_64 (by decide) ?_
          refine lv_istore (lv' := [(8, .int 0), (0, .ref (a 0)), (1, .ref (q 0)), (2, .ref (q 4)), (3, .int (nI k1)), (4, .int x2), (5, .int y5_29), (6, .int y6_29), (7, .ref a2)]) hC.1 hC.2.1 dL_wouldDot_65 hl (by decide) rfl (fun ls hl => ?_)
          have A67 : ∀ (y5_67 : Int32) (y6_67 : Int32), ∀ (f_67 : Nat → Int32), fL_wouldDot x v f2 k1 x2 = (tL_wouldDot_18 x v f2 k1 x2 (lpBs n18 (bL_wouldDot_18 x v f2 k1 x2) (tL_wouldDot_67 x v f2 k1 x2 y5_67 y6_67 f_67))) → lpTs n18 (bL_wouldDot_18 x v f2 k1 x2) (tL_wouldDot_67 x v f2 k1 x2 y5_67 y6_67 f_67) → ∀ (H : Heap) (locs : List Loc), PW G (a1W G a2 24 f_67) H → va_S (wdN N) s.heap H locs → ∀ (ls : Array Slot), lv_has ls 12 [(0, .ref (a 0)), (1, .ref (q 0)), (2, .ref (q 4)), (3, .int (nI k1)), (4, .int x2), (5, .int y5_67), (6, .int y6_67), (7, .ref a2)] → W p l e ({ frames := 5, cells := 1, slots := 24, locals := 116 }) s m ([.ref (a 0), .ref (q 0), .ref (q 4), .int (nI k1), .int x2] : List Value).toArray below meth c H locs 1 24 (MQ below (QE (some (.int (fL_wouldDot x v f2 k1 x2).2)) (fun H => (fun _ : Heap => True) H) (wdN N)) ([.ref (a 0), .ref (q 0), .ref (q 4), .int (nI k1), .int x2] : List Value).toArray s 1 24 (wdN N)) (F0 m 101 ls []) := by
            intro y5_67 y6_67 f_67 hg hT H locs hP hS ls hl
            refine lv_iload hC.1 hC.2.1 dL_wouldDot_101 (lv_at hl 5 rfl) ?_
            refine lv_iload hC.1 hC.2.1 dL_wouldDot_103 (lv_at hl 6 rfl) ?_
            have J113 : ∀ (y6_113 : Int32) (z0_113 : Int32) (z1_113 : Int32) (f_113 : Nat → Int32), fL_wouldDot x v f2 k1 x2 = (tL_wouldDot_18 x v f2 k1 x2 (lpBs n18 (bL_wouldDot_18 x v f2 k1 x2) (tL_wouldDot_J113 x v f2 k1 x2 y6_113 z0_113 z1_113 f_113))) → lpTs n18 (bL_wouldDot_18 x v f2 k1 x2) (tL_wouldDot_J113 x v f2 k1 x2 y6_113 z0_113 z1_113 f_113) → ∀ (H : Heap) (locs : List Loc), PW G (a1W G a2 24 f_113) H → va_S (wdN N) s.heap H locs → ∀ (ls : Array Slot), lv_has ls 12 [(0, .ref (a 0)), (1, .ref (q 0)), (2, .ref (q 4)), (3, .int (nI k1)), (4, .int x2), (6, .int y6_113), (7, .ref a2)] → W p l e ({ frames := 5, cells := 1, slots := 24, locals := 116 }) s m ([.ref (a 0), .ref (q 0), .ref (q 4), .int (nI k1), .int x2] : List Value).toArray below meth c H locs 1 24 (MQ below (QE (some (.int (fL_wouldDot x v f2 k1 x2).2)) (fun H => (fun _ : Heap => True) H) (wdN N)) ([.ref (a 0), .ref (q 0), .ref (q 4), .int (nI k1), .int x2] : List Value).toArray s 1 24 (wdN N)) (F0 m 113 ls [.int z1_113, .int z0_113]) := by
              intro y6_113 z0_113 z1_113 f_113 hg hT H locs hP hS ls hl
              refine lv_iadd hC.1 hC.2.1 dL_wouldDot_113 ?_
              refine lv_istore (lv' := [(5, .int (z0_113 + z1_113)), (0, .ref (a 0)), (1, .ref (q 0)), (2, .ref (q 4)), (3, .int (nI k1)), (4, .int x2), (6, .int y6_113), (7, .ref a2)]) hC.1 hC.2.1 dL_wouldDot_114 hl (by decide) rfl (fun ls hl => ?_)
              refine lv_goto (tgt := 18) hC.1 hC.2.1 dL_wouldDot_116 (by decide) ?_
              have e_16 : tL_wouldDot_J113 x v f2 k1 x2 y6_113 z0_113 z1_113 f_113 = (true, (z0_113 + z1_113, y6_113, f_113)) := by delta tL_wouldDot_J113; exact rfl
              have hg : fL_wouldDot x v f2 k1 x2 = (tL_wouldDot_18 x v f2 k1 x2 (lpB n18 (bL_wouldDot_18 x v f2 k1 x2) (z0_113 + z1_113, y6_113, f_113))) := by have e2 := congrArg (fun z => (tL_wouldDot_18 x v f2 k1 x2 (lpBs n18 (bL_wouldDot_18 x v f2 k1 x2) z))) e_16; exact hg.trans e2
              have hT : lpTs n18 (bL_wouldDot_18 x v f2 k1 x2) (true, (z0_113 + z1_113, y6_113, f_113)) := by rw [← e_16]; exact hT
              exact ih (z0_113 + z1_113) y6_113 f_113 (lpT_go hT) hg _ _ hP hS _ (lv_sub hl [1, 2, 3, 4, 5, 0, 6, 7] rfl)
            refine lv_if_eq (tgt := 112) hC.1 hC.2.1 dL_wouldDot_105 (by decide) (fun k105 => ?_) (fun k105 => ?_)
            · refine lv_iconst (v := 0) hC.1 hC.2.1 dL_wouldDot_112 (by decide) ?_
              have e_17 : tL_wouldDot_67 x v f2 k1 x2 y5_67 y6_67 f_67 = tL_wouldDot_J113 x v f2 k1 x2 y6_67 y5_67 0 f_67 := by delta tL_wouldDot_67; exact Eq.trans (if_pos k105) rfl
              have hg : fL_wouldDot x v f2 k1 x2 = (tL_wouldDot_18 x v f2 k1 x2 (lpBs n18 (bL_wouldDot_18 x v f2 k1 x2) (tL_wouldDot_J113 x v f2 k1 x2 y6_67 y5_67 0 f_67))) := by have e2 := congrArg (fun z => (tL_wouldDot_18 x v f2 k1 x2 (lpBs n18 (bL_wouldDot_18 x v f2 k1 x2) z))) e_17; exact hg.trans e2
              have hT : lpTs n18 (bL_wouldDot_18 x v f2 k1 x2) (tL_wouldDot_J113 x v f2 k1 x2 y6_67 y5_67 0 f_67) := by rw [← e_17]; exact hT
              exact J113 y6_67 y5_67 0 f_67 hg hT _ _ hP hS _ (lv_sub hl [0, 1, 2, 3, 4, 6, 7] rfl)
            · refine lv_iconst (v := 1) hC.1 hC.2.1 dL_wouldDot_108 (by decide) ?_
              refine lv_goto (tgt := 113) hC.1 hC.2.1 dL_wouldDot_109 (by decide) ?_
              have e_18 : tL_wouldDot_67 x v f2 k1 x2 y5_67 y6_67 f_67 = tL_wouldDot_J113 x v f2 k1 x2 y6_67 y5_67 1 f_67 := by delta tL_wouldDot_67; exact Eq.trans (if_neg k105) rfl
              have hg : fL_wouldDot x v f2 k1 x2 = (tL_wouldDot_18 x v f2 k1 x2 (lpBs n18 (bL_wouldDot_18 x v f2 k1 x2) (tL_wouldDot_J113 x v f2 k1 x2 y6_67 y5_67 1 f_67))) := by have e2 := congrArg (fun z => (tL_wouldDot_18 x v f2 k1 x2 (lpBs n18 (bL_wouldDot_18 x v f2 k1 x2) z))) e_18; exact hg.trans e2
              have hT : lpTs n18 (bL_wouldDot_18 x v f2 k1 x2) (tL_wouldDot_J113 x v f2 k1 x2 y6_67 y5_67 1 f_67) := by rw [← e_18]; exact hT
              exact J113 y6_67 y5_67 1 f_67 hg hT _ _ hP hS _ (lv_sub hl [0, 1, 2, 3, 4, 6, 7] rfl)
          have L67 : ∀ (y5_67 : Int32) (y6_67 : Int32), ∀ (n67 d67 : Nat), ∀ (f_67 : Nat → Int32), d67 + n67 = 24 → fL_wouldDot x v f2 k1 x2 = (tL_wouldDot_18 x v f2 k1 x2 (lpBs n18 (bL_wouldDot_18 x v f2 k1 x2) (Sum.elim (tL_wouldDot_67 x v f2 k1 x2 y5_67 y6_67) (tL_wouldDot_67 x v f2 k1 x2 y5_67 y6_67) (lpR n67 d67 (bL_wouldDot_67 x v f2 k1 x2 y5_67 y6_67) f_67)))) → lpTs n18 (bL_wouldDot_18 x v f2 k1 x2) (Sum.elim (tL_wouldDot_67 x v f2 k1 x2 y5_67 y6_67) (tL_wouldDot_67 x v f2 k1 x2 y5_67 y6_67) (lpR n67 d67 (bL_wouldDot_67 x v f2 k1 x2 y5_67 y6_67) f_67)) → ∀ (H : Heap) (locs : List Loc), PW G (a1W G a2 24 f_67) H → va_S (wdN N) s.heap H locs → ∀ (ls : Array Slot), lv_has ls 12 [(0, .ref (a 0)), (1, .ref (q 0)), (2, .ref (q 4)), (3, .int (nI k1)), (4, .int x2), (5, .int y5_67), (6, .int y6_67), (7, .ref a2), (8, .int (nI d67))] → W p l e ({ frames := 5, cells := 1, slots := 24, locals := 116 }) s m ([.ref (a 0), .ref (q 0), .ref (q 4), .int (nI k1), .int x2] : List Value).toArray below meth c H locs 1 24 (MQ below (QE (some (.int (fL_wouldDot x v f2 k1 x2).2)) (fun H => (fun _ : Heap => True) H) (wdN N)) ([.ref (a 0), .ref (q 0), .ref (q 4), .int (nI k1), .int x2] : List Value).toArray s 1 24 (wdN N)) (F0 m 67 ls []) := by
            intro y5_67 y6_67
            intro n67
            induction n67 with
            | zero =>
              intro d67 f_67 hd hg hTo H locs hP hS ls hl
              refine lv_iload hC.1 hC.2.1 dL_wouldDot_67 (lv_at hl 8 rfl) ?_
              refine lv_bipush (v := 24) hC.1 hC.2.1 dL_wouldDot_69 (by decide +kernel) ?_
              refine lv_icmp_ge (tgt := 101) hC.1 hC.2.1 dL_wouldDot_71 (by decide) (fun k71 => ?_) (fun k71 => ?_)
              · exact A67 y5_67 y6_67 f_67 hg hTo _ _ hP hS _ (lv_sub hl [0, 1, 2, 3, 4, 5, 6, 7] rfl)
              · exact absurd (nI_le (a := 24) (b := d67) (by omega) (by omega)) k71
            | succ n67 ih =>
              intro d67 f_67 hd hg hTo H locs hP hS ls hl
              have hg : fL_wouldDot x v f2 k1 x2 = (tL_wouldDot_18 x v f2 k1 x2 (lpBs n18 (bL_wouldDot_18 x v f2 k1 x2) (Sum.elim (tL_wouldDot_67 x v f2 k1 x2 y5_67 y6_67) (tL_wouldDot_67 x v f2 k1 x2 y5_67 y6_67) (lpRs n67 d67 (bL_wouldDot_67 x v f2 k1 x2 y5_67 y6_67) (bL_wouldDot_67 x v f2 k1 x2 y5_67 y6_67 d67 f_67))))) := hg
              have hTo : lpTs n18 (bL_wouldDot_18 x v f2 k1 x2) (Sum.elim (tL_wouldDot_67 x v f2 k1 x2 y5_67 y6_67) (tL_wouldDot_67 x v f2 k1 x2 y5_67 y6_67) (lpRs n67 d67 (bL_wouldDot_67 x v f2 k1 x2 y5_67 y6_67) (bL_wouldDot_67 x v f2 k1 x2 y5_67 y6_67 d67 f_67))) := hTo
              refine lv_iload hC.1 hC.2.1 dL_wouldDot_67 (lv_at hl 8 rfl) ?_
              refine lv_bipush (v := 24) hC.1 hC.2.1 dL_wouldDot_69 (by decide +kernel) ?_
              refine lv_icmp_ge (tgt := 101) hC.1 hC.2.1 dL_wouldDot_71 (by decide) (fun k71 => ?_) (fun k71 => ?_)
              · exact absurd k71 (nI_ge (a := d67) (b := 24) (by omega) (by omega))
              · refine lv_iload hC.1 hC.2.1 dL_wouldDot_74 (lv_at hl 6 rfl) ?_
                refine lv_if_eq (tgt := 101) hC.1 hC.2.1 dL_wouldDot_76 (by decide) (fun k76 => ?_) (fun k76 => ?_)
                · have e_19 : bL_wouldDot_67 x v f2 k1 x2 y5_67 y6_67 d67 f_67 = Sum.inr f_67 := by delta bL_wouldDot_67; exact Eq.trans (if_pos k76) rfl
                  have hg : fL_wouldDot x v f2 k1 x2 = (tL_wouldDot_18 x v f2 k1 x2 (lpBs n18 (bL_wouldDot_18 x v f2 k1 x2) (tL_wouldDot_67 x v f2 k1 x2 y5_67 y6_67 f_67))) := by have e2 := congrArg (fun z => (tL_wouldDot_18 x v f2 k1 x2 (lpBs n18 (bL_wouldDot_18 x v f2 k1 x2) (Sum.elim (tL_wouldDot_67 x v f2 k1 x2 y5_67 y6_67) (tL_wouldDot_67 x v f2 k1 x2 y5_67 y6_67) (lpRs n67 d67 (bL_wouldDot_67 x v f2 k1 x2 y5_67 y6_67) z))))) e_19; exact hg.trans e2
                  have hTo : lpTs n18 (bL_wouldDot_18 x v f2 k1 x2) (Sum.elim (tL_wouldDot_67 x v f2 k1 x2 y5_67 y6_67) (tL_wouldDot_67 x v f2 k1 x2 y5_67 y6_67) (lpRs n67 d67 (bL_wouldDot_67 x v f2 k1 x2 y5_67 y6_67) (Sum.inr f_67))) := by rw [← e_19]; exact hTo
                  exact A67 y5_67 y6_67 f_67 hg hTo _ _ hP hS _ (lv_sub hl [0, 1, 2, 3, 4, 5, 6, 7] rfl)
                · refine lv_aload hC.1 hC.2.1 dL_wouldDot_79 (lv_at hl 7 rfl) ?_
                  refine lv_iload hC.1 hC.2.1 dL_wouldDot_81 (lv_at hl 8 rfl) ?_
                  refine lv_aload hC.1 hC.2.1 dL_wouldDot_83 (lv_at hl 7 rfl) ?_
                  refine lv_iload hC.1 hC.2.1 dL_wouldDot_85 (lv_at hl 8 rfl) ?_
                  refine iald_k hC (hKN.go hAL hS) hP 0 rfl (n := 24) (f := f_67) d67 (rfl) (by omega) (by first | decide | omega) dL_wouldDot_87 ?_
                  refine lv_aload_n hC.1 hC.2.1 dL_wouldDot_88 rfl (lv_at hl 2 rfl) ?_
                  refine lv_iconst (v := 1) hC.1 hC.2.1 dL_wouldDot_89 (by decide) ?_
                  refine iald_k hC (hKN.go hAL hS) (keepS hP3 hS (lw_na hqm v)) 4 rfl (n := 21) (f := (v 4)) 1 (rfl) (by omega) (by first | decide | omega) dL_wouldDot_90 ?_
                  refine runP (rS (B := fun U H => True) (As := [.int (f_67 d67), .int ((v 4) 1)]) (rest := [.int (nI d67), .ref a2]) hC mwL_less (c_L_less l G (f_67 d67) ((v 4) 1) (LS_1 hLS)) wd_229 wd_228 ⟨rfl, rfl⟩ ⟨Nat.le_of_ble_eq_true rfl, Nat.le_of_ble_eq_true rfl⟩ (fun _ _ _ _ h => h) (hKN.go hAL hS) trivial rfl hl.1 rfl (Nat.le_of_ble_eq_true rfl) dL_wouldDot_91 ⟨Nat.le_refl _, Nat.le_refl _⟩) ?_
                  refine lv_topi (fun w_20 ew_20 => ?_)
                  refine iast_k hC (hKN.go hAL hS) hP (a1W_DA hA0 f_67) hS 0 rfl (n := 24) (f := f_67) d67 (rfl) (by omega) (by first | decide | omega) dL_wouldDot_94 (fun H locs hq_21 hS => ?_)
                  have hP : PW G (a1W G a2 24 (upd f_67 d67 w_20)) H := hq_21
                  refine lv_iinc (v := nI (d67 + 1)) (lv' := [(8, .int (nI (d67 + 1))), (0, .ref (a 0)), (1, .ref (q 0)), (2, .ref (q 4)), (3, .int (nI k1)), (4, .int x2), (5, .int y5_67), (6, .int y6_67), (7, .ref a2)]) hC.1 hC.2.1 dL_wouldDot_95 hl (k := 8) rfl (nI_1 _) (by decide) rfl (fun ls hl => ?_)
                  refine lv_goto (tgt := 67) hC.1 hC.2.1 dL_wouldDot_98 (by decide) ?_
                  have e_22 : bL_wouldDot_67 x v f2 k1 x2 y5_67 y6_67 d67 f_67 = Sum.inl (upd f_67 d67 w_20) := by have q_ := ew_20.symm; subst q_; delta bL_wouldDot_67; exact Eq.trans (if_neg k76) rfl
                  have hg : fL_wouldDot x v f2 k1 x2 = (tL_wouldDot_18 x v f2 k1 x2 (lpBs n18 (bL_wouldDot_18 x v f2 k1 x2) (Sum.elim (tL_wouldDot_67 x v f2 k1 x2 y5_67 y6_67) (tL_wouldDot_67 x v f2 k1 x2 y5_67 y6_67) (lpR n67 (d67 + 1) (bL_wouldDot_67 x v f2 k1 x2 y5_67 y6_67) (upd f_67 d67 w_20))))) := by have e2 := congrArg (fun z => (tL_wouldDot_18 x v f2 k1 x2 (lpBs n18 (bL_wouldDot_18 x v f2 k1 x2) (Sum.elim (tL_wouldDot_67 x v f2 k1 x2 y5_67 y6_67) (tL_wouldDot_67 x v f2 k1 x2 y5_67 y6_67) (lpRs n67 d67 (bL_wouldDot_67 x v f2 k1 x2 y5_67 y6_67) z))))) e_22; exact hg.trans e2
                  have hTo : lpTs n18 (bL_wouldDot_18 x v f2 k1 x2) (Sum.elim (tL_wouldDot_67 x v f2 k1 x2 y5_67 y6_67) (tL_wouldDot_67 x v f2 k1 x2 y5_67 y6_67) (lpRs n67 d67 (bL_wouldDot_67 x v f2 k1 x2 y5_67 y6_67) (Sum.inl (upd f_67 d67 w_20)))) := by rw [← e_22]; exact hTo
                  exact ih (d67 + 1) (upd f_67 d67 w_20) (by omega) hg hTo _ _ hP hS _ (lv_sub hl [1, 2, 3, 4, 5, 6, 7, 8, 0] rfl)
          have e_23 : tL_wouldDot_29 x v f2 k1 x2 y5_29 f_29 y6_29 = Sum.elim (tL_wouldDot_67 x v f2 k1 x2 y5_29 y6_29) (tL_wouldDot_67 x v f2 k1 x2 y5_29 y6_29) (lpR 24 0 (bL_wouldDot_67 x v f2 k1 x2 y5_29 y6_29) f_29) := by delta tL_wouldDot_29; exact rfl
          have hg : fL_wouldDot x v f2 k1 x2 = (tL_wouldDot_18 x v f2 k1 x2 (lpBs n18 (bL_wouldDot_18 x v f2 k1 x2) (Sum.elim (tL_wouldDot_67 x v f2 k1 x2 y5_29 y6_29) (tL_wouldDot_67 x v f2 k1 x2 y5_29 y6_29) (lpR 24 0 (bL_wouldDot_67 x v f2 k1 x2 y5_29 y6_29) f_29)))) := by have e2 := congrArg (fun z => (tL_wouldDot_18 x v f2 k1 x2 (lpBs n18 (bL_wouldDot_18 x v f2 k1 x2) z))) e_23; exact hg.trans e2
          have hT : lpTs n18 (bL_wouldDot_18 x v f2 k1 x2) (Sum.elim (tL_wouldDot_67 x v f2 k1 x2 y5_29 y6_29) (tL_wouldDot_67 x v f2 k1 x2 y5_29 y6_29) (lpR 24 0 (bL_wouldDot_67 x v f2 k1 x2 y5_29 y6_29) f_29)) := by rw [← e_23]; exact hT
          exact L67 y5_29 y6_29 24 0 f_29 (by omega) hg hT _ _ hP hS _ (lv_sub hl [1, 2, 3, 4, 5, 6, 7, 8, 0] rfl)
        have L29 : ∀ (y5_29 : Int32) (f_29 : Nat → Int32), ∀ (n29 d29 : Nat), ∀ (y6_29 : Int32), d29 + n29 = 24 → fL_wouldDot x v f2 k1 x2 = (tL_wouldDot_18 x v f2 k1 x2 (lpBs n18 (bL_wouldDot_18 x v f2 k1 x2) (tL_wouldDot_29 x v f2 k1 x2 y5_29 f_29 (lpF n29 d29 (bL_wouldDot_29 x v f2 k1 x2 y5_29 f_29) y6_29)))) → lpTs n18 (bL_wouldDot_18 x v f2 k1 x2) (tL_wouldDot_29 x v f2 k1 x2 y5_29 f_29 (lpF n29 d29 (bL_wouldDot_29 x v f2 k1 x2 y5_29 f_29) y6_29)) → ∀ (H : Heap) (locs : List Loc), PW G (a1W G a2 24 f_29) H → va_S (wdN N) s.heap H locs → ∀ (ls : Array Slot), lv_has ls 12 [(0, .ref (a 0)), (1, .ref (q 0)), (2, .ref (q 4)), (3, .int (nI k1)), (4, .int x2), (5, .int y5_29), (6, .int y6_29), (7, .ref a2), (8, .int (nI d29))] → W p l e ({ frames := 5, cells := 1, slots := 24, locals := 116 }) s m ([.ref (a 0), .ref (q 0), .ref (q 4), .int (nI k1), .int x2] : List Value).toArray below meth c H locs 1 24 (MQ below (QE (some (.int (fL_wouldDot x v f2 k1 x2).2)) (fun H => (fun _ : Heap => True) H) (wdN N)) ([.ref (a 0), .ref (q 0), .ref (q 4), .int (nI k1), .int x2] : List Value).toArray s 1 24 (wdN N)) (F0 m 29 ls []) := by
          intro y5_29 f_29
          intro n29
          induction n29 with
          | zero =>
            intro d29 y6_29 hd hg hTo H locs hP hS ls hl
            refine lv_iload hC.1 hC.2.1 dL_wouldDot_29 (lv_at hl 8 rfl) ?_
            refine lv_bipush (v := 24) hC.1 hC.2.1 dL_wouldDot_31 (by decide +kernel) ?_
            refine lv_icmp_ge (tgt := 64) hC.1 hC.2.1 dL_wouldDot_33 (by decide) (fun k33 => ?_) (fun k33 => ?_)
            · exact A29 y5_29 f_29 y6_29 hg hTo _ _ hP hS _ (lv_sub hl [0, 1, 2, 3, 4, 5, 6, 7] rfl)
            · exact absurd (nI_le (a := 24) (b := d29) (by omega) (by omega)) k33
          | succ n29 ih =>
            intro d29 y6_29 hd hg hTo H locs hP hS ls hl
            have hg : fL_wouldDot x v f2 k1 x2 = (tL_wouldDot_18 x v f2 k1 x2 (lpBs n18 (bL_wouldDot_18 x v f2 k1 x2) (tL_wouldDot_29 x v f2 k1 x2 y5_29 f_29 (lpF n29 (d29 + 1) (bL_wouldDot_29 x v f2 k1 x2 y5_29 f_29) (bL_wouldDot_29 x v f2 k1 x2 y5_29 f_29 d29 y6_29))))) := hg
            have hTo : lpTs n18 (bL_wouldDot_18 x v f2 k1 x2) (tL_wouldDot_29 x v f2 k1 x2 y5_29 f_29 (lpF n29 (d29 + 1) (bL_wouldDot_29 x v f2 k1 x2 y5_29 f_29) (bL_wouldDot_29 x v f2 k1 x2 y5_29 f_29 d29 y6_29))) := hTo
            refine lv_iload hC.1 hC.2.1 dL_wouldDot_29 (lv_at hl 8 rfl) ?_
            refine lv_bipush (v := 24) hC.1 hC.2.1 dL_wouldDot_31 (by decide +kernel) ?_
            refine lv_icmp_ge (tgt := 64) hC.1 hC.2.1 dL_wouldDot_33 (by decide) (fun k33 => ?_) (fun k33 => ?_)
            · exact absurd k33 (nI_ge (a := d29) (b := 24) (by omega) (by omega))
            · refine lv_iload hC.1 hC.2.1 dL_wouldDot_36 (lv_at hl 6 rfl) ?_
              refine lv_if_ne (tgt := 51) hC.1 hC.2.1 dL_wouldDot_38 (by decide) (fun k38 => ?_) (fun k38 => ?_)
              · refine lv_iconst (v := 1) hC.1 hC.2.1 dL_wouldDot_51 (by decide) ?_
                refine lv_goto (tgt := 56) hC.1 hC.2.1 dL_wouldDot_52 (by decide) ?_
                refine lv_istore (lv' := [(6, .int 1), (0, .ref (a 0)), (1, .ref (q 0)), (2, .ref (q 4)), (3, .int (nI k1)), (4, .int x2), (5, .int y5_29), (7, .ref a2), (8, .int (nI d29))]) hC.1 hC.2.1 dL_wouldDot_56 hl (by decide) rfl (fun ls hl => ?_)
                refine lv_iinc (v := nI (d29 + 1)) (lv' := [(8, .int (nI (d29 + 1))), (6, .int 1), (0, .ref (a 0)), (1, .ref (q 0)), (2, .ref (q 4)), (3, .int (nI k1)), (4, .int x2), (5, .int y5_29), (7, .ref a2)]) hC.1 hC.2.1 dL_wouldDot_58 hl (k := 8) rfl (nI_1 _) (by decide) rfl (fun ls hl => ?_)
                refine lv_goto (tgt := 29) hC.1 hC.2.1 dL_wouldDot_61 (by decide) ?_
                have e_24 : bL_wouldDot_29 x v f2 k1 x2 y5_29 f_29 d29 y6_29 = 1 := by delta bL_wouldDot_29; exact Eq.trans (if_neg k38) rfl
                have hg : fL_wouldDot x v f2 k1 x2 = (tL_wouldDot_18 x v f2 k1 x2 (lpBs n18 (bL_wouldDot_18 x v f2 k1 x2) (tL_wouldDot_29 x v f2 k1 x2 y5_29 f_29 (lpF n29 (d29 + 1) (bL_wouldDot_29 x v f2 k1 x2 y5_29 f_29) 1)))) := by have e2 := congrArg (fun z => (tL_wouldDot_18 x v f2 k1 x2 (lpBs n18 (bL_wouldDot_18 x v f2 k1 x2) (tL_wouldDot_29 x v f2 k1 x2 y5_29 f_29 (lpF n29 (d29 + 1) (bL_wouldDot_29 x v f2 k1 x2 y5_29 f_29) z))))) e_24; exact hg.trans e2
                have hTo : lpTs n18 (bL_wouldDot_18 x v f2 k1 x2) (tL_wouldDot_29 x v f2 k1 x2 y5_29 f_29 (lpF n29 (d29 + 1) (bL_wouldDot_29 x v f2 k1 x2 y5_29 f_29) 1)) := by rw [← e_24]; exact hTo
                exact ih (d29 + 1) 1 (by omega) hg hTo _ _ hP hS _ (lv_sub hl [2, 3, 4, 5, 6, 7, 1, 8, 0] rfl)
              · refine lv_aload hC.1 hC.2.1 dL_wouldDot_41 (lv_at hl 7 rfl) ?_
                refine lv_iload hC.1 hC.2.1 dL_wouldDot_43 (lv_at hl 8 rfl) ?_
                refine iald_k hC (hKN.go hAL hS) hP 0 rfl (n := 24) (f := f_29) d29 (rfl) (by omega) (by first | decide | omega) dL_wouldDot_45 ?_
                refine lv_iload hC.1 hC.2.1 dL_wouldDot_46 (lv_at hl 4 rfl) ?_
                refine lv_icmp_le (tgt := 55) hC.1 hC.2.1 dL_wouldDot_48 (by decide) (fun k48 => ?_) (fun k48 => ?_)
                · refine lv_iconst (v := 0) hC.1 hC.2.1 dL_wouldDot_55 (by decide) ?_
                  refine lv_istore (lv' := [(6, .int 0), (0, .ref (a 0)), (1, .ref (q 0)), (2, .ref (q 4)), (3, .int (nI k1)), (4, .int x2), (5, .int y5_29), (7, .ref a2), (8, .int (nI d29))]) hC.1 hC.2.1 dL_wouldDot_56 hl (by decide) rfl (fun ls hl => ?_)
                  refine lv_iinc (v := nI (d29 + 1)) (lv' := [(8, .int (nI (d29 + 1))), (6, .int 0), (0, .ref (a 0)), (1, .ref (q 0)), (2, .ref (q 4)), (3, .int (nI k1)), (4, .int x2), (5, .int y5_29), (7, .ref a2)]) hC.1 hC.2.1 dL_wouldDot_58 hl (k := 8) rfl (nI_1 _) (by decide) rfl (fun ls hl => ?_)
                  refine lv_goto (tgt := 29) hC.1 hC.2.1 dL_wouldDot_61 (by decide) ?_
                  have e_25 : bL_wouldDot_29 x v f2 k1 x2 y5_29 f_29 d29 y6_29 = 0 := by delta bL_wouldDot_29; exact Eq.trans (if_pos k38) (Eq.trans (if_pos k48) rfl)
                  have hg : fL_wouldDot x v f2 k1 x2 = (tL_wouldDot_18 x v f2 k1 x2 (lpBs n18 (bL_wouldDot_18 x v f2 k1 x2) (tL_wouldDot_29 x v f2 k1 x2 y5_29 f_29 (lpF n29 (d29 + 1) (bL_wouldDot_29 x v f2 k1 x2 y5_29 f_29) 0)))) := by have e2 := congrArg (fun z => (tL_wouldDot_18 x v f2 k1 x2 (lpBs n18 (bL_wouldDot_18 x v f2 k1 x2) (tL_wouldDot_29 x v f2 k1 x2 y5_29 f_29 (lpF n29 (d29 + 1) (bL_wouldDot_29 x v f2 k1 x2 y5_29 f_29) z))))) e_25; exact hg.trans e2
                  have hTo : lpTs n18 (bL_wouldDot_18 x v f2 k1 x2) (tL_wouldDot_29 x v f2 k1 x2 y5_29 f_29 (lpF n29 (d29 + 1) (bL_wouldDot_29 x v f2 k1 x2 y5_29 f_29) 0)) := by rw [← e_25]; exact hTo
                  exact ih (d29 + 1) 0 (by omega) hg hTo _ _ hP hS _ (lv_sub hl [2, 3, 4, 5, 6, 7, 1, 8, 0] rfl)
                · refine lv_iconst (v := 1) hC.1 hC.2.1 dL_wouldDot_51 (by decide) ?_
                  refine lv_goto (tgt := 56) hC.1 hC.2.1 dL_wouldDot_52 (by decide) ?_
                  refine lv_istore (lv' := [(6, .int 1), (0, .ref (a 0)), (1, .ref (q 0)), (2, .ref (q 4)), (3, .int (nI k1)), (4, .int x2), (5, .int y5_29), (7, .ref a2), (8, .int (nI d29))]) hC.1 hC.2.1 dL_wouldDot_56 hl (by decide) rfl (fun ls hl => ?_)
                  refine lv_iinc (v := nI (d29 + 1)) (lv' := [(8, .int (nI (d29 + 1))), (6, .int 1), (0, .ref (a 0)), (1, .ref (q 0)), (2, .ref (q 4)), (3, .int (nI k1)), (4, .int x2), (5, .int y5_29), (7, .ref a2)]) hC.1 hC.2.1 dL_wouldDot_58 hl (k := 8) rfl (nI_1 _) (by decide) rfl (fun ls hl => ?_)
                  refine lv_goto (tgt := 29) hC.1 hC.2.1 dL_wouldDot_61 (by decide) ?_
                  have e_26 : bL_wouldDot_29 x v f2 k1 x2 y5_29 f_29 d29 y6_29 = 1 := by delta bL_wouldDot_29; exact Eq.trans (if_pos k38) (Eq.trans (if_neg k48) rfl)
                  have hg : fL_wouldDot x v f2 k1 x2 = (tL_wouldDot_18 x v f2 k1 x2 (lpBs n18 (bL_wouldDot_18 x v f2 k1 x2) (tL_wouldDot_29 x v f2 k1 x2 y5_29 f_29 (lpF n29 (d29 + 1) (bL_wouldDot_29 x v f2 k1 x2 y5_29 f_29) 1)))) := by have e2 := congrArg (fun z => (tL_wouldDot_18 x v f2 k1 x2 (lpBs n18 (bL_wouldDot_18 x v f2 k1 x2) (tL_wouldDot_29 x v f2 k1 x2 y5_29 f_29 (lpF n29 (d29 + 1) (bL_wouldDot_29 x v f2 k1 x2 y5_29 f_29) z))))) e_26; exact hg.trans e2
                  have hTo : lpTs n18 (bL_wouldDot_18 x v f2 k1 x2) (tL_wouldDot_29 x v f2 k1 x2 y5_29 f_29 (lpF n29 (d29 + 1) (bL_wouldDot_29 x v f2 k1 x2 y5_29 f_29) 1)) := by rw [← e_26]; exact hTo
                  exact ih (d29 + 1) 1 (by omega) hg hTo _ _ hP hS _ (lv_sub hl [2, 3, 4, 5, 6, 7, 1, 8, 0] rfl)
        have e_27 : bL_wouldDot_18 x v f2 k1 x2 (y5_18, y6_18, f_18) = tL_wouldDot_29 x v f2 k1 x2 y5_18 f_18 (lpF 24 0 (bL_wouldDot_29 x v f2 k1 x2 y5_18 f_18) 0) := by delta bL_wouldDot_18; exact Eq.trans (if_neg k20) rfl
        have hg : fL_wouldDot x v f2 k1 x2 = (tL_wouldDot_18 x v f2 k1 x2 (lpBs n18 (bL_wouldDot_18 x v f2 k1 x2) (tL_wouldDot_29 x v f2 k1 x2 y5_18 f_18 (lpF 24 0 (bL_wouldDot_29 x v f2 k1 x2 y5_18 f_18) 0)))) := by have e2 := congrArg (fun z => (tL_wouldDot_18 x v f2 k1 x2 (lpBs n18 (bL_wouldDot_18 x v f2 k1 x2) z))) e_27; exact hg.trans e2
        have hT : lpTs n18 (bL_wouldDot_18 x v f2 k1 x2) (tL_wouldDot_29 x v f2 k1 x2 y5_18 f_18 (lpF 24 0 (bL_wouldDot_29 x v f2 k1 x2 y5_18 f_18) 0)) := by rw [← e_27]; exact hT
        exact L29 y5_18 f_18 24 0 0 (by omega) hg hT _ _ hP hS _ (lv_sub hl [2, 3, 4, 5, 6, 7, 1, 8, 0] rfl)
  have e_28 : fL_wouldDot x v f2 k1 x2 = tL_wouldDot_18 x v f2 k1 x2 (lpB (mT + 3) (bL_wouldDot_18 x v f2 k1 x2) (0, 1, fL_copy 24 (v 0) 24 f2)) := by delta fL_wouldDot; exact rfl
  have hg : fL_wouldDot x v f2 k1 x2 = (tL_wouldDot_18 x v f2 k1 x2 (lpB (mT + 3) (bL_wouldDot_18 x v f2 k1 x2) (0, 1, fL_copy 24 (v 0) 24 f2))) := by have e2 := congrArg (fun z => z) e_28; exact hg.trans e2
  exact L18  (mT + 3) 0 1 (fL_copy 24 (v 0) 24 f2) ((T_wd18 hLS hx2 _)) hg _ _ hP hS _ (lv_sub hl [0, 1, 2, 3, 4, 5, 6, 7] rfl)
