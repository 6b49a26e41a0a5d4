/-! generalities: loops, sums, bits, masks, greatest of members -/
theorem al7 {P : Nat → Prop} (h1 : P 1) (h2 : P 2) (h3 : P 3) (h4 : P 4) (h5 : P 5) (h6 : P 6) (h7 : P 7) : ∀ k, 1 ≤ k → k < 8 → P k := fun k a b => match k, a, b with
  | 1, _, _ => h1
  | 2, _, _ => h2
  | 3, _, _ => h3
  | 4, _, _ => h4
  | 5, _, _ => h5
  | 6, _, _ => h6
  | 7, _, _ => h7
  | k + 8, _, h => absurd h (by omega)
theorem al8 {P : Nat → Prop} (h0 : P 0) (h1 : P 1) (h2 : P 2) (h3 : P 3) (h4 : P 4) (h5 : P 5) (h6 : P 6) (h7 : P 7) : ∀ k, k < 8 → P k := fun k b => match k, b with
  | 0, _ => h0
  | 1, _ => h1
  | 2, _ => h2
  | 3, _ => h3
  | 4, _ => h4
  | 5, _ => h5
  | 6, _ => h6
  | 7, _ => h7
  | k + 8, h => absurd h (by omega)
theorem al9 {P : Nat → Prop} (h0 : P 0) (h1 : P 1) (h2 : P 2) (h3 : P 3) (h4 : P 4) (h5 : P 5) (h6 : P 6) (h7 : P 7) (h8 : P 8) : ∀ k, k < 9 → P k := fun k b => match k, b with
  | 0, _ => h0
  | 1, _ => h1
  | 2, _ => h2
  | 3, _ => h3
  | 4, _ => h4
  | 5, _ => h5
  | 6, _ => h6
  | 7, _ => h7
  | 8, _ => h8
  | k + 9, h => absurd h (by omega)
theorem al11 {P : Nat → Prop} (h0 : P 0) (h1 : P 1) (h2 : P 2) (h3 : P 3) (h4 : P 4) (h5 : P 5) (h6 : P 6) (h7 : P 7) (h8 : P 8) (h9 : P 9) (h10 : P 10) : ∀ k, k < 11 → P k := fun k b => match k, b with
  | 0, _ => h0
  | 1, _ => h1
  | 2, _ => h2
  | 3, _ => h3
  | 4, _ => h4
  | 5, _ => h5
  | 6, _ => h6
  | 7, _ => h7
  | 8, _ => h8
  | 9, _ => h9
  | 10, _ => h10
  | k + 11, h => absurd h (by omega)
theorem lpF_0 {σ : Type} (P : Nat → σ → Prop) {b : Nat → σ → σ} (n : Nat) (s : σ) (hs : ∀ d t, d < n → P d t → P (d + 1) (b d t)) (h0 : P 0 s) : P n (lpF n 0 b s) := by
  have h := lpF_ind P (b := b) n 0 s (fun d t _ h2 h3 => hs d t (by omega) h3) h0
  rw [Nat.zero_add] at h
  exact h
theorem lpB_ind {σ : Type} {Q : σ → Prop} (P : Nat → σ → Prop) {g : σ → Bool × σ} (j : Nat) (h1 : ∀ i s, i < j → P i s → (g s).1 = true ∧ P (i + 1) (g s).2) (h2 : ∀ s, P j s → (g s).1 = false ∧ Q (g s).2) (N : Nat) : ∀ (i : Nat) (s : σ), i ≤ j → j < i + N → P i s → Q (lpB N g s) := by
  induction N with
  | zero => intro i s a b; omega
  | succ N ih =>
    intro i s a b p
    show Q (bif (g s).1 then lpB N g (g s).2 else (g s).2)
    by_cases k : i = j
    · subst k
      obtain ⟨c1, c2⟩ := h2 s p
      rw [c1]
      exact c2
    · obtain ⟨c1, c2⟩ := h1 i s (by omega) p
      rw [c1]
      exact ih (i + 1) _ (by omega) (by omega) c2
theorem smF_add (f g : Nat → Int32) (n : Nat) : smF n (fun d => f d + g d) = smF n f + smF n g := by
  induction n with
  | zero => rfl
  | succ n ih =>
    show smF n (fun d => f d + g d) + (f n + g n) = (smF n f + f n) + (smF n g + g n)
    rw [ih, Int32.add_assoc, Int32.add_assoc, ← Int32.add_assoc (smF n g), ← Int32.add_assoc (f n), Int32.add_comm (smF n g) (f n)]
theorem smF_lp (f : Nat → Int32) (n : Nat) : lpF n 0 (fun d s => s + f d) 0 = smF n f :=
  lpF_0 (fun i s => s = smF i f) n 0 (fun d t _ h => by show t + f d = smF d f + f d; rw [h]) rfl
def smN : Nat → (Nat → Nat) → Nat
  | 0, _ => 0
  | n + 1, f => smN n f + f n
theorem smF_N {f : Nat → Int32} {g : Nat → Nat} (n : Nat) (h : ∀ d, d < n → f d = nI (g d)) : smF n f = nI (smN n g) := by
  induction n with
  | zero => exact nI_0.symm
  | succ n ih =>
    show smF n f + f n = nI (smN n g + g n)
    rw [ih (fun d hd => h d (by omega)), h n (by omega), nI_add]
theorem smN_le {g : Nat → Nat} {b : Nat} (n : Nat) (h : ∀ d, d < n → g d ≤ b) : smN n g ≤ n * b := by
  induction n with
  | zero => exact Nat.zero_le _
  | succ n ih =>
    have h1 := ih (fun d hd => h d (by omega))
    have h2 := h n (by omega)
    show smN n g + g n ≤ _
    rw [Nat.succ_mul]
    omega
theorem smN_mono {f g : Nat → Nat} (n : Nat) (h : ∀ d, d < n → f d ≤ g d) : smN n f ≤ smN n g := by
  induction n with
  | zero => exact Nat.le_refl _
  | succ n ih =>
    have h1 := ih (fun d hd => h d (by omega))
    have h2 := h n (by omega)
    show smN n f + f n ≤ smN n g + g n
    omega
/-! bits -/
def bt (x : Int32) (i : Nat) : Bool := x.toBitVec.getLsbD i
theorem b_ext {x y : Int32} (h : ∀ i, i < 32 → bt x i = bt y i) : x = y := Int32.toBitVec_inj.mp (BitVec.eq_of_getLsbD_eq (fun i hi => h i hi))
theorem b_or (x y : Int32) (i : Nat) : bt (x ||| y) i = (bt x i || bt y i) := by unfold bt; rw [Int32.toBitVec_or, BitVec.getLsbD_or]
theorem b_and (x y : Int32) (i : Nat) : bt (x &&& y) i = (bt x i && bt y i) := by unfold bt; rw [Int32.toBitVec_and, BitVec.getLsbD_and]
theorem b_xor (x y : Int32) (i : Nat) : bt (x ^^^ y) i = (bt x i ^^ bt y i) := by unfold bt; rw [Int32.toBitVec_xor, BitVec.getLsbD_xor]
theorem b_nI (n : Nat) {i : Nat} (hi : i < 32) : bt (nI n) i = n.testBit i := by
  show (BitVec.ofNat 32 n).getLsbD i = _
  rw [BitVec.getLsbD_ofNat, decide_eq_true hi, Bool.true_and]
theorem b_m1 : ∀ i, i < 32 → bt (-1) i = true := by decide +kernel
theorem nx_or (a b : Nat) : nI a ||| nI b = nI (a ||| b) := b_ext (fun i hi => by rw [b_or, b_nI _ hi, b_nI _ hi, b_nI _ hi, Nat.testBit_or])
theorem s_l : ∀ n, n < 32 → ((nI n &&& 31).toBitVec.smod 32).toNat = n := by decide +kernel
theorem one_sh : ∀ n, n < 31 → (1 : Int32) <<< (nI n &&& 31) = nI (2 ^ n) := by decide +kernel
theorem bitOf_nI {X d : Nat} (hX : X < 2 ^ 31) (hd : d < 24) : fX5_bitOf (nI X) (nI d) = nI (X.testBit d).toNat := by
  unfold fX5_bitOf
  rw [if_neg (nI_pos (by omega)), if_neg (show ¬ (24 : Int32) ≤ nI d from nI_ge (b := 24) hd (by omega)), pk_shrN hX _ d (s_l d (by omega)), Nat.toNat_testBit]
  have h : X / 2 ^ d < 2 ^ 31 := Nat.lt_of_le_of_lt (Nat.div_le_self _ _) hX
  exact pk_andN (Nat.lt_of_lt_of_le h (by decide)) 1 rfl
theorem bit_eq (x y : Int32) : fX6_bit x y = fX5_bitOf x y := by
  unfold fX6_bit fX5_bitOf fX6_in
  by_cases h : y < 0
  · rw [if_pos h, if_pos h, if_pos rfl]
  · rw [if_neg h, if_neg h]
    obtain ⟨j, hj, rfl⟩ := nI_of h
    by_cases h2 : j < 24
    · rw [if_neg (show ¬ (23 : Int32) < nI j from nI_nlt (b := j) (a := 23) (by omega) (by omega)), if_neg (by decide), if_neg (show ¬ (24 : Int32) ≤ nI j from nI_ge (b := 24) h2 (by omega))]
    · rw [if_pos (show (23 : Int32) < nI j from nI_lt (a := 23) (by omega) hj), if_pos rfl, if_pos (show (24 : Int32) ≤ nI j from nI_le (a := 24) (by omega) hj)]
theorem in_eq (x y z : Int32) : fX6_in x y z = fX5_isWithin x y z := rfl
theorem bit01 (x y : Int32) : fX5_bitOf x y = 0 ∨ fX5_bitOf x y = 1 := by
  unfold fX5_bitOf
  split
  · exact Or.inl rfl
  · split
    · exact Or.inl rfl
    · obtain ⟨j, hj, e⟩ := pk_andE (x >>> (y &&& 31)) (m := 1) 1 rfl
      rw [e]
      match j, hj with
      | 0, _ => exact Or.inl rfl
      | 1, _ => exact Or.inr rfl
      | j + 2, h => exact absurd h (by omega)
theorem nb_1 (b : Bool) : nI b.toNat = 1 ↔ b = true := by cases b <;> decide
theorem nb_0 (b : Bool) : nI b.toNat = 0 ↔ b = false := by cases b <;> decide
/-! masks -/
def mkN : Nat → (Nat → Bool) → Nat
  | 0, _ => 0
  | n + 1, p => mkN n p ||| (if p n then 2 ^ n else 0)
theorem tb_mkN (p : Nat → Bool) (d n : Nat) : (mkN n p).testBit d = (decide (d < n) && p d) := by
  induction n with
  | zero => simp [mkN]
  | succ n ih =>
    show (mkN n p ||| (if p n then 2 ^ n else 0)).testBit d = _
    rw [Nat.testBit_or, ih]
    by_cases h : d = n
    · subst h
      by_cases k : p d = true
      · simp [k, Nat.testBit_two_pow]
      · simp [k]
    · have e : (if p n = true then 2 ^ n else 0).testBit d = false := by
        split
        · rw [Nat.testBit_two_pow]; simp; omega
        · simp
      rw [e, Bool.or_false, show decide (d < n + 1) = decide (d < n) from by simp; omega]
theorem mkN_lt (p : Nat → Bool) (n : Nat) : mkN n p < 2 ^ n := by
  apply Nat.lt_pow_two_of_testBit
  intro i hi
  rw [tb_mkN, decide_eq_false (by omega)]
  rfl
theorem mkN_31 (p : Nat → Bool) : mkN 24 p < 2 ^ 31 := Nat.lt_of_lt_of_le (mkN_lt p 24) (by decide)
theorem mkN_congr {p q : Nat → Bool} (n : Nat) (h : ∀ d, d < n → p d = q d) : mkN n p = mkN n q := by
  apply Nat.eq_of_testBit_eq
  intro i
  rw [tb_mkN, tb_mkN]
  by_cases k : i < n
  · rw [h i k]
  · rw [decide_eq_false k]
    rfl
theorem mkN_or (p q : Nat → Bool) (n : Nat) : mkN n p ||| mkN n q = mkN n (fun d => p d || q d) := by
  apply Nat.eq_of_testBit_eq
  intro i
  rw [Nat.testBit_or, tb_mkN, tb_mkN, tb_mkN, Bool.and_or_distrib_left]
theorem mkN_id {X : Nat} (h : X < 2 ^ 24) : mkN 24 (fun d => X.testBit d) = X := by
  apply Nat.eq_of_testBit_eq
  intro i
  rw [tb_mkN]
  by_cases k : i < 24
  · rw [decide_eq_true k]
    rfl
  · rw [decide_eq_false k, Nat.testBit_lt_two_pow (Nat.lt_of_lt_of_le h (Nat.pow_le_pow_right (by omega) (by omega)))]
    rfl
theorem mkN_F (n : Nat) : mkN n (fun _ => false) = 0 := by
  apply Nat.eq_of_testBit_eq
  intro i
  rw [tb_mkN, Bool.and_false, Nat.zero_testBit]
theorem mkN_step (p : Nat → Bool) (d : Nat) (hd : d < 31) : nI (mkN (d + 1) p) = nI (mkN d p) ||| (if p d then (1 : Int32) <<< (nI d &&& 31) else 0) := by
  show nI (mkN d p ||| (if p d then 2 ^ d else 0)) = _
  rw [← nx_or]
  congr 1
  split
  · exact (one_sh d hd).symm
  · exact nI_0
theorem bit_mkN (p : Nat → Bool) {d : Nat} (hd : d < 24) : fX5_bitOf (nI (mkN 24 p)) (nI d) = nI (p d).toNat := by
  rw [bitOf_nI (mkN_31 p) hd, tb_mkN, decide_eq_true hd, Bool.true_and]
theorem andn_mkN {X : Nat} (hX : X < 2 ^ 24) (D : Nat → Bool) : nI X &&& (nI (mkN 24 D) ^^^ (-1)) = nI (mkN 24 (fun d => X.testBit d && !D d)) := b_ext (fun i hi => by
  rw [b_and, b_xor, b_m1 i hi, b_nI _ hi, b_nI _ hi, b_nI _ hi, tb_mkN, tb_mkN]
  by_cases k : i < 24
  · rw [decide_eq_true k]
    cases X.testBit i <;> cases D i <;> rfl
  · rw [decide_eq_false k, Nat.testBit_lt_two_pow (Nat.lt_of_lt_of_le hX (Nat.pow_le_pow_right (by omega) (by omega)))]
    rfl)
/-! the greatest of the members -/
def mxN : Nat → (Nat → Bool) → (Nat → Nat) → Nat
  | 0, _, _ => 0
  | n + 1, m, f => if m n then max (mxN n m f) (f n) else mxN n m f
theorem mxN_t {m : Nat → Bool} {f : Nat → Nat} {n : Nat} (h : m n = true) : mxN (n + 1) m f = max (mxN n m f) (f n) := if_pos h
theorem mxN_f {m : Nat → Bool} {f : Nat → Nat} {n : Nat} (h : ¬ m n = true) : mxN (n + 1) m f = mxN n m f := if_neg h
theorem mxN_le {m : Nat → Bool} {f : Nat → Nat} {b : Nat} (n : Nat) (h : ∀ d, d < n → m d = true → f d ≤ b) : mxN n m f ≤ b := by
  induction n with
  | zero => exact Nat.zero_le _
  | succ n ih =>
    have h1 := ih (fun d hd => h d (by omega))
    by_cases k : m n = true
    · rw [mxN_t k]
      exact Nat.max_le.mpr ⟨h1, h n (by omega) k⟩
    · rw [mxN_f k]
      exact h1
theorem mxN_ge {m : Nat → Bool} {f : Nat → Nat} {d : Nat} (n : Nat) (hd : d < n) (hm : m d = true) : f d ≤ mxN n m f := by
  induction n with
  | zero => omega
  | succ n ih =>
    by_cases e : d = n
    · subst e
      rw [mxN_t hm]
      exact Nat.le_max_right _ _
    · have h1 := ih (by omega)
      by_cases k : m n = true
      · rw [mxN_t k]
        exact Nat.le_trans h1 (Nat.le_max_left _ _)
      · rw [mxN_f k]
        exact h1
theorem mxN_congr {m m' : Nat → Bool} {f f' : Nat → Nat} (n : Nat) (h : ∀ d, d < n → m d = m' d ∧ f d = f' d) : mxN n m f = mxN n m' f' := by
  induction n with
  | zero => rfl
  | succ n ih =>
    have h1 := ih (fun d hd => h d (by omega))
    obtain ⟨h2, h3⟩ := h n (by omega)
    show (if m n then max (mxN n m f) (f n) else mxN n m f) = (if m' n then max (mxN n m' f') (f' n) else mxN n m' f')
    rw [h1, h2, h3]
/-- Java's two ways to say the greater one -/
theorem imx {a b : Nat} (ha : a < 2 ^ 31) (hb : b < 2 ^ 31) : (if nI a < nI b then nI b else nI a) = nI (max a b) := by
  by_cases h : a < b
  · rw [if_pos (nI_lt h hb), Nat.max_eq_right (by omega)]
  · rw [if_neg (nI_nlt (by omega) ha), Nat.max_eq_left (by omega)]
theorem imx2 {a b : Nat} (ha : a < 2 ^ 31) (hb : b < 2 ^ 31) : (if nI b ≤ nI a then nI a else nI b) = nI (max a b) := by
  by_cases h : a < b
  · rw [if_neg (nI_ge h hb), Nat.max_eq_right (by omega)]
  · rw [if_pos (nI_le (by omega) ha), Nat.max_eq_left (by omega)]
