/-! the law's own head: its row, time that passes, pulses, parts -/
def rw (v : SV) : Nat → Int32 := fun k => if k < 24 then v 0 k else if k = 24 then v 4 13 else if k = 25 then v 4 14 else if k < 50 then v 1 (k - 26) else if k < 74 then v 2 (k - 50) else if k < 81 then v 4 (k - 74) else if k = 81 then v 4 7 else if k = 82 then v 4 8 else if k = 83 then v 4 9 else if k = 84 then v 4 10 else if k = 85 then v 4 11 else if k = 86 then v 4 12 else if k = 87 then v 4 15 else v 3 (k - 88)
theorem rw_h {v : SV} {d : Nat} (hd : d < 24) : rw v d = v 0 d := if_pos hd
theorem rw_p {v : SV} {d : Nat} (hd : d < 24) : rw v (26 + d) = v 1 d := by
  unfold rw
  rw [if_neg (by omega), if_neg (by omega), if_neg (by omega), if_pos (by omega), Nat.add_sub_cancel_left]
theorem rw_f {v : SV} {d : Nat} (hd : d < 24) : rw v (50 + d) = v 2 d := by
  unfold rw
  rw [if_neg (by omega), if_neg (by omega), if_neg (by omega), if_neg (by omega), if_pos (by omega), Nat.add_sub_cancel_left]
theorem rw_s {v : SV} {i : Nat} (hi : i < 7) : rw v (74 + i) = v 4 i := by
  unfold rw
  rw [if_neg (by omega), if_neg (by omega), if_neg (by omega), if_neg (by omega), if_neg (by omega), if_pos (by omega), Nat.add_sub_cancel_left]
theorem rw_k {v : SV} (j : Nat) : rw v (88 + j) = v 3 j := by
  unfold rw
  rw [if_neg (by omega), if_neg (by omega), if_neg (by omega), if_neg (by omega), if_neg (by omega), if_neg (by omega), if_neg (by omega), if_neg (by omega), if_neg (by omega), if_neg (by omega), if_neg (by omega), if_neg (by omega), if_neg (by omega), Nat.add_sub_cancel_left]
theorem SI_L {v : SV} (h : Lgs v) : SI (rw v) := h
theorem L_SI {v : SV} (h : SI (rw v)) : Lgs v := h
theorem less_n {c h : Nat} (hc : 1 ≤ c) (hc2 : c < 2 ^ 30) (hh : h < 2 ^ 30) : fL_less (nI h) (nI c) = nI (cool c h) := by
  have hle := cool_le c h
  unfold fL_less
  rw [Int32.sub_sub, Int32.add_comm, ← Int32.sub_sub]
  rcases cool_i hc hc2 hh with ⟨-, e⟩ | ⟨e1, e⟩
  · rw [e, if_pos (nI_nn (by omega))]
  · rw [e, e1, if_neg (by decide)]
    rfl
/-- what a world has in common with another one but heat and time -/
def WF (w0 w : SV) : Prop := w 1 = w0 1 ∧ w 2 = w0 2 ∧ w 3 = w0 3 ∧ ∀ j, j ≠ 8 → j ≠ 17 → w 4 j = w0 4 j
theorem WF.rf (w : SV) : WF w w := ⟨rfl, rfl, rfl, fun _ _ _ => rfl⟩
theorem passes_i {w0 : SV} {x3 : Int32} {d2 c : Nat} {h : Nat → Nat} (hc : 1 ≤ c) (hc2 : c < 2 ^ 30) (hh : ∀ d, h d < 2 ^ 30) (w : SV) (h1 : w 4 1 = nI c) (h0 : ∀ d, d < 24 → w 0 d = nI (h d)) :
    (∀ d, d < 24 → lpF 24 0 (bL_passes_18 w0 x3 d2) w 0 d = nI (cool c (h d))) ∧ lpF 24 0 (bL_passes_18 w0 x3 d2) w 1 = w 1 ∧ lpF 24 0 (bL_passes_18 w0 x3 d2) w 2 = w 2 ∧ lpF 24 0 (bL_passes_18 w0 x3 d2) w 3 = w 3 ∧ lpF 24 0 (bL_passes_18 w0 x3 d2) w 4 = w 4 := by
  have q := lpF_0 (fun i (s : SV) => (∀ d, d < 24 → s 0 d = nI (if d < i then cool c (h d) else h d)) ∧ s 1 = w 1 ∧ s 2 = w 2 ∧ s 3 = w 3 ∧ s 4 = w 4) (b := bL_passes_18 w0 x3 d2) 24 w ?_ ⟨fun d hd => by rw [if_neg (Nat.not_lt_zero d)]; exact h0 d hd, rfl, rfl, rfl, rfl⟩
  · exact ⟨fun d hd => (q.1 d hd).trans (by rw [if_pos hd]), q.2⟩
  · intro i s hi hs
    obtain ⟨a1, a2, a3, a4, a5⟩ := hs
    refine ⟨fun d hd => ?_, a2, a3, a4, a5⟩
    show upd (s 0) i (fL_less (s 0 i) (s 4 1)) d = _
    by_cases z : d = i
    · subst z
      rw [pk_us, a1 d hd, if_neg (Nat.lt_irrefl d), a5, h1, less_n hc hc2 (hh d), if_pos (by omega)]
    · rw [pk_un z, a1 d hd]
      by_cases z2 : d < i
      · rw [if_pos z2, if_pos (by omega)]
      · rw [if_neg z2, if_neg (by omega)]
/-- time that passes -/
def TP (c : Nat) (h : Nat → Nat) (w0 : SV) (t : Nat) (w : SV) : Prop := (∀ d, d < 24 → w 0 d = nI (coolN c t (h d))) ∧ w 4 8 = w0 4 8 + nI t ∧ w 1 = w0 1 ∧ w 2 = w0 2 ∧ w 3 = w0 3 ∧ ∀ j, j ≠ 8 → w 4 j = w0 4 j
theorem passes_t {w0 : SV} {c t : Nat} {h : Nat → Nat} (hc : 1 ≤ c) (hc2 : c < 2 ^ 30) (ht : t < 2 ^ 30) (hh : ∀ d, h d < 2 ^ 30) (h1 : w0 4 1 = nI c) (h0 : ∀ d, d < 24 → w0 0 d = nI (h d)) : TP c h w0 t (fL_passes w0 (nI t)) := by
  unfold fL_passes tL_passes_2
  rw [nI_clamp (by omega)]
  refine lpF_0 (fun i (s : SV) => TP c h w0 i s) t w0 ?_ ⟨h0, by rw [nI_0, Int32.add_zero], rfl, rfl, rfl, fun _ _ => rfl⟩
  intro i s hi hs
  obtain ⟨a1, a2, a3, a4, a5, a6⟩ := hs
  obtain ⟨b1, b2, b3, b4, b5⟩ := passes_i (w0 := w0) (x3 := nI t) (d2 := i) hc hc2 (h := fun d => coolN c i (h d)) (fun d => Nat.lt_of_le_of_lt (coolN_le c i (h d)) (hh d)) (mkL (s 0) (s 1) (s 2) (s 3) (upd (s 4) 8 (s 4 8 + 1))) ((pk_un (by decide)).trans ((a6 1 (by decide)).trans h1)) a1
  have e : bL_passes_2 w0 (nI t) i s = lpF 24 0 (bL_passes_18 w0 (nI t) i) (mkL (s 0) (s 1) (s 2) (s 3) (upd (s 4) 8 (s 4 8 + 1))) := rfl
  rw [e]
  refine ⟨fun d hd => (b1 d hd).trans (by rw [coolN_s]), ?_, b2.trans a3, b3.trans a4, b4.trans a5, fun j hj => ?_⟩
  · rw [b5]
    show upd (s 4) 8 (s 4 8 + 1) 8 = _
    rw [pk_us, a2, Int32.add_assoc, nI_1]
  · rw [b5]
    show upd (s 4) 8 (s 4 8 + 1) j = _
    rw [pk_un hj]
    exact a6 j hj
theorem passes_0 (w : SV) : fL_passes w 0 = w := rfl
/-! parts -/
theorem cntN_cut (X d n : Nat) (h : d ≤ n) : cntN (X % 2 ^ d) n = cntN X d := by
  induction n with
  | zero =>
    have : d = 0 := by omega
    subst this
    rfl
  | succ n ih =>
    show cntN (X % 2 ^ d) n + ((X % 2 ^ d).testBit n).toNat = _
    rw [Nat.testBit_mod_two_pow]
    by_cases z : d ≤ n
    · rw [ih z, decide_eq_false (by omega), Bool.false_and]
      rfl
    · have e : d = n + 1 := by omega
      subst e
      rw [decide_eq_true (by omega), Bool.true_and]
      have k : ∀ m, m ≤ n → cntN (X % 2 ^ (n + 1)) m = cntN X m := by
        intro m
        induction m with
        | zero => intro _; rfl
        | succ m ihm =>
          intro hm
          show cntN (X % 2 ^ (n + 1)) m + ((X % 2 ^ (n + 1)).testBit m).toNat = cntN X m + (X.testBit m).toNat
          rw [ihm (by omega), Nat.testBit_mod_two_pow, decide_eq_true (by omega), Bool.true_and]
      rw [k n (Nat.le_refl _)]
      rfl
theorem tN_n {X : Nat} (h : X < 2 ^ 32) : tN (nI X) = X := by
  show (BitVec.ofNat 32 X).toNat = X
  rw [BitVec.toNat_ofNat, Nat.mod_eq_of_lt h]
theorem cnt_32 {X : Nat} (h : X < 2 ^ 24) : cntN X 32 = cntN X 24 := by
  have e := cntN_cut X 24 32 (by omega)
  rw [Nat.mod_eq_of_lt h] at e
  exact e
theorem ones_n {X : Nat} (h : X < 2 ^ 24) : fL_ones (nI X) = nI (cntN X 24) := by rw [ones_t, tN_n (by omega), cnt_32 h]
theorem many_n {v : SV} (hI : SI (rw v)) : (if v 4 4 / v 4 3 ≤ 0 then (1 : Int32) else v 4 4 / v 4 3) = nI (aoN (rw v)) := by
  obtain ⟨e, hl⟩ := ao_i hI
  rw [show v 4 4 / v 4 3 = nI (aN (rw v) 78 / aN (rw v) 77) from e]
  unfold aoN
  by_cases h : 1 ≤ aN (rw v) 78 / aN (rw v) 77
  · rw [if_neg (nI_nle (by omega) (by omega)), Nat.max_eq_right h]
  · have : aN (rw v) 78 / aN (rw v) 77 = 0 := Nat.lt_one_iff.mp (Nat.not_le.mp h)
    rw [this, if_pos (by decide)]
    rfl
theorem rem_n {a b : Nat} (ha : a < 2 ^ 31) (hb : 0 < b) (hb2 : b < 2 ^ 31) : nI a - nI a / nI b * nI b = nI (a % b) := by
  have hd : a / b * b ≤ a := Nat.div_mul_le_self a b
  rw [pk_div (by omega) (by omega) (by omega), pk_mul, pk_sub hd]
  congr 1
  have := Nat.div_add_mod a b
  rw [Nat.mul_comm] at this
  omega
theorem up_div (c a : Nat) (ha : 1 ≤ a) : c / a + (if c % a = 0 then 0 else 1) = (c + a - 1) / a := by
  have h1 := Nat.div_add_mod c a
  have h2 := Nat.mod_lt c ha
  by_cases z : c % a = 0
  · rw [if_pos z, Nat.add_zero]
    have e : c + a - 1 = a - 1 + a * (c / a) := by omega
    rw [e, Nat.add_mul_div_left _ _ ha, Nat.div_eq_of_lt (show a - 1 < a by omega), Nat.zero_add]
  · rw [if_neg z]
    have e : c + a - 1 = (c % a - 1) + a * (c / a + 1) := by rw [Nat.mul_add, Nat.mul_one]; omega
    rw [e, Nat.add_mul_div_left _ _ ha, Nat.div_eq_of_lt (show c % a - 1 < a by omega), Nat.zero_add]
theorem parts_n {r : Nat → Int32} (hI : SI r) (X : Nat) : nI (cntN X 24) / nI (aoN r) + (if nI (cntN X 24) - nI (cntN X 24) / nI (aoN r) * nI (aoN r) ≤ 0 then (0 : Int32) else 1) = nI (ptN r X) := by
  obtain ⟨h1, h2⟩ := aoN_le hI
  have hc := cntN_le X 24
  have hm := Nat.mod_lt (cntN X 24) (show aoN r > 0 by omega)
  rw [rem_n (by omega) (by omega) (by omega), pk_div (by omega) (by omega) (by omega)]
  have e := up_div (cntN X 24) (aoN r) h1
  unfold ptN
  rw [← e]
  by_cases z : cntN X 24 % aoN r = 0
  · rw [z, if_pos (by decide), if_pos rfl, Int32.add_zero, Nat.add_zero]
  · rw [if_neg (nI_nle (by omega) (by omega)), if_neg z]
    exact nI_1 _
theorem before_n {X d : Nat} (hX : X < 2 ^ 24) (hd : d < 24) : fL_ones (nI X &&& (((1 : Int32) <<< (nI d &&& 31)) - 1)) = nI (cntN X d) := by
  have hp := Nat.two_pow_pos d
  rw [one_sh d (by omega), show nI (2 ^ d) - 1 = nI (2 ^ d - 1) from nE_sub (a := 2 ^ d) (b := 1) rfl rfl hp, nx_and, Nat.and_two_pow_sub_one_eq_mod, ones_t, tN_n (Nat.lt_of_le_of_lt (Nat.mod_le _ _) (by omega)), cntN_cut X d 32 (by omega)]
theorem partOf_n {v : SV} {X d : Nat} (hI : SI (rw v)) (hX : X < 2 ^ 24) (hd : d < 24) (hb : X.testBit d = true) : fL_partOf v (nI X) (nI d) = nI (prt (aN (rw v) 79) (ptN (rw v) X) (aoN (rw v)) X d) := by
  have hm := many_n hI
  have hpt := parts_n hI X
  obtain ⟨h1, h2⟩ := aoN_le hI
  have hp := ptN_le hI X
  have hc := cntN_le X d
  have hlt := pt_lt hI hd hb
  obtain ⟨-, -, -, -, -, ⟨e5, l5⟩, -⟩ := SI_n hI
  have e5' : v 4 5 = nI (aN (rw v) 79) := e5
  have key : ∀ (z : Int32), z = nI (aoN (rw v)) → (if (fL_ones (nI X)) - (fL_ones (nI X)) / z * z ≤ 0 then (if v 4 5 = 1 then fL_ones (nI X &&& ((1 <<< (nI d &&& 31)) - 1)) - fL_ones (nI X &&& ((1 <<< (nI d &&& 31)) - 1)) / (fL_ones (nI X) / z + 0) * (fL_ones (nI X) / z + 0) else fL_ones (nI X &&& ((1 <<< (nI d &&& 31)) - 1)) / z) else (if v 4 5 = 1 then fL_ones (nI X &&& ((1 <<< (nI d &&& 31)) - 1)) - fL_ones (nI X &&& ((1 <<< (nI d &&& 31)) - 1)) / (fL_ones (nI X) / z + 1) * (fL_ones (nI X) / z + 1) else fL_ones (nI X &&& ((1 <<< (nI d &&& 31)) - 1)) / z)) = nI (prt (aN (rw v) 79) (ptN (rw v) X) (aoN (rw v)) X d) := by
    rintro z rfl
    rw [before_n hX hd, ones_n hX]
    have fin : ∀ y : Int32, y = nI (ptN (rw v) X) → (if v 4 5 = 1 then nI (cntN X d) - nI (cntN X d) / y * y else nI (cntN X d) / nI (aoN (rw v))) = nI (prt (aN (rw v) 79) (ptN (rw v) X) (aoN (rw v)) X d) := by
      rintro y rfl
      rw [e5']
      unfold prt
      by_cases q : aN (rw v) 79 = 1
      · rw [q, if_pos rfl, if_pos (show nI 1 = 1 from rfl), rem_n (by omega) (by omega) (by omega)]
      · rw [if_neg (fun z => q (by have := congrArg Int32.toNatClampNeg z; rw [nI_clamp (by omega)] at this; exact this)), if_neg q, pk_div (by omega) (by omega) (by omega)]
    by_cases q : nI (cntN X 24) - nI (cntN X 24) / nI (aoN (rw v)) * nI (aoN (rw v)) ≤ 0
    · rw [if_pos q] at hpt ⊢
      exact fin _ hpt
    · rw [if_neg q] at hpt ⊢
      exact fin _ hpt
  unfold fL_partOf
  by_cases q : v 4 4 / v 4 3 ≤ 0
  · rw [if_pos q] at hm ⊢
    exact key 1 hm
  · rw [if_neg q] at hm ⊢
    exact key _ hm
