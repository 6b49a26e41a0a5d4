/-! from 68.pure10.lean.txt -/
theorem and_cat {a b c d : Nat} (hb : b < 2 ^ 8) (hd : d < 2 ^ 8) : (2 ^ 8 * a + b) &&& (2 ^ 8 * c + d) = 2 ^ 8 * (a &&& c) + (b &&& d) := by
  apply Nat.eq_of_testBit_eq
  intro j
  rw [Nat.testBit_and, Nat.testBit_two_pow_mul_add a hb j, Nat.testBit_two_pow_mul_add c hd j, Nat.testBit_two_pow_mul_add (a &&& c) (Nat.and_lt_two_pow b hd) j, Nat.testBit_and, Nat.testBit_and]
  split <;> rfl
theorem and_3 {x0 x1 x2 : Nat} (h0 : x0 < 256) (h1 : x1 < 256) (k : Nat) (hk : k < 256) (t : Nat) : (x0 + 256 * x1 + 65536 * x2) &&& (k + 256 * k + 65536 * (k + 256 * t)) = (x0 &&& k) + 256 * (x1 &&& k) + 65536 * (x2 &&& (k + 256 * t)) := by
  rw [show x0 + 256 * x1 + 65536 * x2 = 2 ^ 8 * (2 ^ 8 * x2 + x1) + x0 by omega, show k + 256 * k + 65536 * (k + 256 * t) = 2 ^ 8 * (2 ^ 8 * (k + 256 * t) + k) + k by omega, and_cat (by omega) (by omega), and_cat (by omega) (by omega)]
  omega
theorem and_t {x k t : Nat} (hx : x < 256) (hk : k < 256) : x &&& (k + 256 * t) = x &&& k := by
  have h := and_cat (a := 0) (b := x) (c := t) (d := k) (by omega) (by omega)
  rw [Nat.zero_and] at h
  simpa [Nat.add_comm] using h
def pA (y : Nat) : Nat := y - ((y / 2) &&& 85)
def pB (y : Nat) : Nat := (pA y &&& 51) + ((pA y / 4) &&& 51)
def pC (y : Nat) : Nat := (pB y + pB y / 16) % 16
theorem p_85 : ∀ y, y < 128 → ∀ b, b < 2 → (y + 128 * b) &&& 85 = y &&& 85 := by decide +kernel
theorem p_51 : ∀ y, y < 64 → ∀ b, b < 4 → (y + 64 * b) &&& 51 = y &&& 51 := by decide +kernel
theorem p_A : ∀ y, y < 256 → ((y / 2) &&& 85) ≤ y ∧ pA y < 256 ∧ pB y ≤ 68 ∧ pB y % 16 ≤ 4 ∧ pC y = cntN y 8 := by decide +kernel
theorem cntN_cat {a Y : Nat} (ha : a < 256) (n : Nat) : cntN (a + 256 * Y) (8 + n) = cntN a 8 + cntN Y n := by
  have tb : ∀ j, (a + 256 * Y).testBit j = if j < 8 then a.testBit j else Y.testBit (j - 8) := fun j => by
    rw [show a + 256 * Y = 2 ^ 8 * Y + a by omega]
    exact Nat.testBit_two_pow_mul_add Y (by omega) j
  induction n with
  | zero =>
    have h : ∀ k, k ≤ 8 → cntN (a + 256 * Y) k = cntN a k := by
      intro k
      induction k with
      | zero => exact fun _ => rfl
      | succ k ih =>
        intro hk
        show cntN (a + 256 * Y) k + ((a + 256 * Y).testBit k).toNat = cntN a k + (a.testBit k).toNat
        rw [ih (by omega), tb, if_pos (by omega)]
    exact h 8 (by omega)
  | succ n ih =>
    show cntN (a + 256 * Y) (8 + n) + ((a + 256 * Y).testBit (8 + n)).toNat = cntN a 8 + (cntN Y n + (Y.testBit n).toNat)
    rw [ih, tb, if_neg (by omega), show 8 + n - 8 = n by omega, Nat.add_assoc]
theorem u_k : ((1 : Int32).toUInt32 &&& Int32.toUInt32 31).toBitVec % 32 = 1 ∧ ((2 : Int32).toUInt32 &&& Int32.toUInt32 31).toBitVec % 32 = 2 ∧ ((4 : Int32).toUInt32 &&& Int32.toUInt32 31).toBitVec % 32 = 4 ∧ ((8 : Int32).toUInt32 &&& Int32.toUInt32 31).toBitVec % 32 = 8 ∧ ((16 : Int32).toUInt32 &&& Int32.toUInt32 31).toBitVec % 32 = 16 := by decide +kernel
theorem us1 {n : Nat} (h : n < 2 ^ 32) : ((nI n).toUInt32 >>> ((1 : Int32).toUInt32 &&& Int32.toUInt32 31)).toInt32 = nI (n / 2) := pk_ushrN h 1 1 (by rw [u_k.1]; rfl)
theorem us2 {n : Nat} (h : n < 2 ^ 32) : ((nI n).toUInt32 >>> ((2 : Int32).toUInt32 &&& Int32.toUInt32 31)).toInt32 = nI (n / 4) := pk_ushrN h 2 2 (by rw [u_k.2.1]; rfl)
theorem us4 {n : Nat} (h : n < 2 ^ 32) : ((nI n).toUInt32 >>> ((4 : Int32).toUInt32 &&& Int32.toUInt32 31)).toInt32 = nI (n / 16) := pk_ushrN h 4 4 (by rw [u_k.2.2.1]; rfl)
theorem us8 {n : Nat} (h : n < 2 ^ 32) : ((nI n).toUInt32 >>> ((8 : Int32).toUInt32 &&& Int32.toUInt32 31)).toInt32 = nI (n / 256) := pk_ushrN h 8 8 (by rw [u_k.2.2.2.1]; rfl)
theorem us16 {n : Nat} (h : n < 2 ^ 32) : ((nI n).toUInt32 >>> ((16 : Int32).toUInt32 &&& Int32.toUInt32 31)).toInt32 = nI (n / 65536) := pk_ushrN h 16 16 (by rw [u_k.2.2.2.2]; rfl)
theorem nx_and (a b : Nat) : nI a &&& nI b = nI (a &&& b) := b_ext (fun i hi => by rw [b_and, b_nI _ hi, b_nI _ hi, b_nI _ hi, Nat.testBit_and])
def bcA (x : Int32) : Int32 := x - (((x.toUInt32 >>> ((1 : Int32).toUInt32 &&& Int32.toUInt32 31)).toInt32) &&& 1431655765)
def bcB (x : Int32) : Int32 := (x &&& 858993459) + (((x.toUInt32 >>> ((2 : Int32).toUInt32 &&& Int32.toUInt32 31)).toInt32) &&& 858993459)
def bcC (x : Int32) : Int32 := (x + ((x.toUInt32 >>> ((4 : Int32).toUInt32 &&& Int32.toUInt32 31)).toInt32)) &&& 252645135
def bcD (x : Int32) : Int32 := x + ((x.toUInt32 >>> ((8 : Int32).toUInt32 &&& Int32.toUInt32 31)).toInt32)
def bcE (x : Int32) : Int32 := (x + ((x.toUInt32 >>> ((16 : Int32).toUInt32 &&& Int32.toUInt32 31)).toInt32)) &&& 63
theorem bc_def (x : Int32) : fJ6_bitCount_0f7a4 x = bcE (bcD (bcC (bcB (bcA x)))) := rfl
theorem lowmod (y : Nat) : y &&& 15 = y % 16 := Nat.and_two_pow_sub_one_eq_mod y 4
theorem bitCount_3 {x0 x1 x2 : Nat} (h0 : x0 < 256) (h1 : x1 < 256) (h2 : x2 < 256) : fJ6_bitCount_0f7a4 (nI (x0 + 256 * x1 + 65536 * x2)) = nI (cntN x0 8 + cntN x1 8 + cntN x2 8) := by
  obtain ⟨a0, b0, c0, d0, e0⟩ := p_A x0 h0
  obtain ⟨a1, b1, c1, d1, e1⟩ := p_A x1 h1
  obtain ⟨a2, b2, c2, d2, e2⟩ := p_A x2 h2
  have m0 : pC x0 < 16 := Nat.mod_lt _ (by omega)
  have m1 : pC x1 < 16 := Nat.mod_lt _ (by omega)
  have m2 : pC x2 < 16 := Nat.mod_lt _ (by omega)
  have k0 : cntN x0 8 ≤ 8 := cntN_le _ _
  have k1 : cntN x1 8 ≤ 8 := cntN_le _ _
  have k2 : cntN x2 8 ≤ 8 := cntN_le _ _
  have A : bcA (nI (x0 + 256 * x1 + 65536 * x2)) = nI (pA x0 + 256 * pA x1 + 65536 * pA x2) := by
    unfold bcA
    rw [us1 (by omega), show (x0 + 256 * x1 + 65536 * x2) / 2 = (x0 / 2 + 128 * (x1 % 2)) + 256 * (x1 / 2 + 128 * (x2 % 2)) + 65536 * (x2 / 2) by omega, show (1431655765 : Int32) = nI (85 + 256 * 85 + 65536 * (85 + 256 * 85)) from rfl, nx_and, and_3 (by omega) (by omega) 85 (by omega) 85, p_85 (x0 / 2) (by omega) _ (by omega), p_85 (x1 / 2) (by omega) _ (by omega), and_t (x := x2 / 2) (by omega) (by omega), pk_sub (by omega)]
    congr 1
    unfold pA
    omega
  have B : bcB (nI (pA x0 + 256 * pA x1 + 65536 * pA x2)) = nI (pB x0 + 256 * pB x1 + 65536 * pB x2) := by
    unfold bcB
    rw [us2 (by omega), show (pA x0 + 256 * pA x1 + 65536 * pA x2) / 4 = (pA x0 / 4 + 64 * (pA x1 % 4)) + 256 * (pA x1 / 4 + 64 * (pA x2 % 4)) + 65536 * (pA x2 / 4) by omega, show (858993459 : Int32) = nI (51 + 256 * 51 + 65536 * (51 + 256 * 51)) from rfl, nx_and, nx_and, and_3 (by omega) (by omega) 51 (by omega) 51, and_3 (by omega) (by omega) 51 (by omega) 51, p_51 (pA x0 / 4) (by omega) _ (by omega), p_51 (pA x1 / 4) (by omega) _ (by omega), and_t (x := pA x2 / 4) (by omega) (by omega), and_t (x := pA x2) (by omega) (by omega), nI_add]
    congr 1
    unfold pB
    omega
  have C : bcC (nI (pB x0 + 256 * pB x1 + 65536 * pB x2)) = nI (pC x0 + 256 * pC x1 + 65536 * pC x2) := by
    unfold bcC
    rw [us4 (by omega), nI_add, show (pB x0 + 256 * pB x1 + 65536 * pB x2) + (pB x0 + 256 * pB x1 + 65536 * pB x2) / 16 = (pB x0 + pB x0 / 16 + 16 * (pB x1 % 16)) + 256 * (pB x1 + pB x1 / 16 + 16 * (pB x2 % 16)) + 65536 * (pB x2 + pB x2 / 16) by omega, show (252645135 : Int32) = nI (15 + 256 * 15 + 65536 * (15 + 256 * 15)) from rfl, nx_and, and_3 (by omega) (by omega) 15 (by omega) 15, and_t (x := pB x2 + pB x2 / 16) (by omega) (by omega), lowmod, lowmod, lowmod]
    congr 1
    unfold pC
    omega
  have D : bcD (nI (pC x0 + 256 * pC x1 + 65536 * pC x2)) = nI ((pC x0 + pC x1) + 256 * (pC x1 + pC x2) + 65536 * pC x2) := by
    unfold bcD
    rw [us8 (by omega), nI_add]
    congr 1
    omega
  have E : bcE (nI ((pC x0 + pC x1) + 256 * (pC x1 + pC x2) + 65536 * pC x2)) = nI (pC x0 + pC x1 + pC x2) := by
    unfold bcE
    rw [us16 (by omega), nI_add, show nI ((pC x0 + pC x1) + 256 * (pC x1 + pC x2) + 65536 * pC x2 + ((pC x0 + pC x1) + 256 * (pC x1 + pC x2) + 65536 * pC x2) / 65536) &&& 63 = nI (((pC x0 + pC x1) + 256 * (pC x1 + pC x2) + 65536 * pC x2 + ((pC x0 + pC x1) + 256 * (pC x1 + pC x2) + 65536 * pC x2) / 65536) % 64) from pk_andN (by omega) 6 rfl]
    congr 1
    have q1 : ((pC x0 + pC x1) + 256 * (pC x1 + pC x2) + 65536 * pC x2) / 65536 = pC x2 := by
      clear a0 a1 a2 A B C D e0 e1 e2 k0 k1 k2
      omega
    rw [q1]
    clear a0 a1 a2 A B C D e0 e1 e2 k0 k1 k2 q1
    omega
  rw [bc_def, A, B, C, D, E, e0, e1, e2]
theorem bitCount_n {X : Nat} (hX : X < 2 ^ 24) : fJ6_bitCount_0f7a4 (nI X) = nI (cntN X 24) := by
  have e : X = X % 256 + 256 * (X / 256 % 256) + 65536 * (X / 65536) := by omega
  have h := bitCount_3 (x0 := X % 256) (x1 := X / 256 % 256) (x2 := X / 65536) (by omega) (by omega) (by omega)
  rw [← e] at h
  rw [h]
  congr 1
  have h1 := cntN_cat (a := X % 256) (Y := X / 256 % 256 + 256 * (X / 65536)) (by omega) 16
  have h2 := cntN_cat (a := X / 256 % 256) (Y := X / 65536) (by omega) 8
  rw [show X % 256 + 256 * (X / 256 % 256 + 256 * (X / 65536)) = X by omega] at h1
  rw [show (24 : Nat) = 8 + 16 from rfl, h1, show (16 : Nat) = 8 + 8 from rfl, h2]
  omega
theorem bitCount_mk (p : Nat → Bool) : fJ6_bitCount_0f7a4 (nI (mkN 24 p)) = smF 24 (fun d => nI (p d).toNat) := by
  rw [bitCount_n (mkN_lt p 24), ← smN_cnt]
  refine (smF_N 24 (fun d hd => ?_)).symm
  rw [tb_mkN, decide_eq_true hd, Bool.true_and]

/-! from 69.pure11.lean.txt -/
theorem pN_congr {r r' : Nat → Int32} (h24 : r' 24 = r 24) (h25 : r' 25 = r 25) (h74 : r' 74 = r 74) (h81 : r' 81 = r 81) (X d : Nat) : pN r' X d = pN r X d := by
  unfold pN psN
  rw [h24, h25, h74, h81]
theorem wN_0 {c m h : Nat} : wN c m h = 0 ↔ h ≤ m := by
  have h1 := wN_c (c := c) (m := m) (h := h) (i := 0)
  rw [Nat.le_zero] at h1
  exact h1.symm
theorem wN_sub (c m h j : Nat) : wN c m (coolN c j h) = wN c m h - j := by
  have key : ∀ i, wN c m (coolN c j h) ≤ i ↔ wN c m h - j ≤ i := fun i => by
    rw [← wN_c, ← coolN_add, wN_c]
    omega
  exact Nat.le_antisymm ((key _).mpr (Nat.le_refl _)) ((key _).mp (Nat.le_refl _))
theorem mxN_sub (m : Nat → Bool) (f : Nat → Nat) (j n : Nat) : mxN n m (fun d => f d - j) = mxN n m f - j := by
  induction n with
  | zero => exact (Nat.zero_sub j).symm
  | succ n ih =>
    by_cases q : m n = true
    · rw [mxN_t q, mxN_t q, ih]
      omega
    · rw [mxN_f q, mxN_f q, ih]
/-! from 71.pure13.lean.txt -/
abbrev SP : Type := (Nat → Nat) × (Nat → Bool) × Nat × Nat × Nat
def wtN (c bd : Nat) (p : Nat → Nat) (m : Nat → Bool) (h : Nat → Nat) : Nat := mxN 24 m (fun d => wN c (bd - p d) (h d))
def h1N (c bd : Nat) (p : Nat → Nat) (m : Nat → Bool) (h : Nat → Nat) : Nat → Nat := fun d => coolN c (wtN c bd p m h) (h d)
def stp (c bd dk : Nat) (p : Nat → Nat) (m : Nat → Bool) (s : SP) : SP :=
  (fun d => coolN c (mxN 24 m p / 10 + 1) (h2N m (h1N c bd p m s.1) p d), fun d => s.2.1 d || (m d && decide (dk ≤ h2N m (h1N c bd p m s.1) p d)), s.2.2.1 + (wtN c bd p m s.1 + (mxN 24 m p / 10 + 1)), s.2.2.2.1 + wtN c bd p m s.1, max s.2.2.2.2 (mxN 24 m (h2N m (h1N c bd p m s.1) p)))
def mbr (r : Nat → Int32) (X k : Nat) : Nat → Bool := memb (aN r 79) (ptN r X) (aoN r) X k
def spN (r : Nat → Int32) (X : Nat) : Nat → SP
  | 0 => (fun d => if d < 24 then aN r d else 0, fun _ => false, 0, 0, 0)
  | k + 1 => stp (aN r 75) (aN r 76) (dkN (aN r 81)) (pN r X) (mbr r X k) (spN r X k)
theorem spN_s (r : Nat → Int32) (X k : Nat) : spN r X (k + 1) = stp (aN r 75) (aN r 76) (dkN (aN r 81)) (pN r X) (mbr r X k) (spN r X k) := rfl
theorem wtN_le {c bd : Nat} {p : Nat → Nat} {m : Nat → Bool} {h : Nat → Nat} (hh : ∀ d, h d ≤ 900) : wtN c bd p m h ≤ 900 := mxN_le 24 (fun d _ _ => Nat.le_trans (wN_le _ _ _) (hh d))
theorem h1N_le {c bd : Nat} {p : Nat → Nat} {m : Nat → Bool} {h : Nat → Nat} (hh : ∀ d, h d ≤ 900) (d : Nat) : h1N c bd p m h d ≤ 900 := Nat.le_trans (coolN_le _ _ _) (hh d)
theorem h2N_le {c bd : Nat} {p : Nat → Nat} {m : Nat → Bool} {h : Nat → Nat} (hh : ∀ d, h d ≤ 900) (hp : ∀ d, p d ≤ 325) (hb : 330 ≤ bd) (hb2 : bd ≤ 900) (hm : ∀ d, m d = true → d < 24) (d : Nat) : h2N m (h1N c bd p m h) p d ≤ 900 := by
  by_cases q : m d = true
  · rw [h2N_t q]
    have h1 : coolN c (wtN c bd p m h) (h d) ≤ bd - p d := wN_c.mpr (mxN_ge (f := fun d => wN c (bd - p d) (h d)) 24 (hm d q) q)
    have h2 := hp d
    show coolN c (wtN c bd p m h) (h d) + p d ≤ 900
    omega
  · rw [h2N_f q]
    exact h1N_le hh d
/-- heats and the hottest are at most 900 -/
theorem mbr_24 {r : Nat → Int32} {X k : Nat} (hX : X < 2 ^ 24) (d : Nat) (h : mbr r X k d = true) : d < 24 := by
  refine Nat.not_le.mp (fun hd => ?_)
  unfold mbr memb at h
  rw [Nat.testBit_lt_two_pow (Nat.lt_of_lt_of_le hX (Nat.pow_le_pow_right (by omega) hd))] at h
  exact absurd h (by simp)
theorem sp_le {r : Nat → Int32} (hI : SI r) (h0 : ∀ d, d < 24 → aN r d ≤ 900) {X : Nat} (hX : X < 2 ^ 24) (k : Nat) : (∀ d, (spN r X k).1 d ≤ 900) ∧ (spN r X k).2.2.2.2 ≤ 900 := by
  obtain ⟨-, -, ⟨-, b1, b2⟩, -⟩ := SI_n hI
  induction k with
  | zero =>
    refine ⟨fun d => ?_, Nat.zero_le _⟩
    show (if d < 24 then aN r d else 0) ≤ 900
    split
    · rename_i q
      exact h0 d q
    · omega
  | succ k ih =>
    have h2 := h2N_le (c := aN r 75) (p := pN r X) ih.1 (fun d => (pN_spec hI X d).2.2) b1 b2 (mbr_24 (r := r) (k := k) hX)
    rw [spN_s]
    exact ⟨fun d => Nat.le_trans (coolN_le _ _ _) (h2 d), Nat.max_le.mpr ⟨ih.2, mxN_le 24 (fun d _ _ => h2 d)⟩⟩
theorem sp_dark {r : Nat → Int32} {X : Nat} (k d : Nat) (h : (spN r X k).2.1 d = true) : X.testBit d = true ∧ prt (aN r 79) (ptN r X) (aoN r) X d < k := by
  induction k with
  | zero => cases h
  | succ k ih =>
    rw [spN_s] at h
    have h : ((spN r X k).2.1 d || (mbr r X k d && decide (dkN (aN r 81) ≤ h2N (mbr r X k) (h1N (aN r 75) (aN r 76) (pN r X) (mbr r X k) (spN r X k).1) (pN r X) d))) = true := h
    rcases Bool.or_eq_true_iff.mp h with q | q
    · obtain ⟨a1, a2⟩ := ih q
      exact ⟨a1, by omega⟩
    · have q1 := (Bool.and_eq_true_iff.mp q).1
      unfold mbr memb at q1
      obtain ⟨q2, q3⟩ := Bool.and_eq_true_iff.mp q1
      exact ⟨q2, by have := of_decide_eq_true q3; omega⟩
def CR (v0 : SV) (r : Nat → Int32) (X hot k : Nat) (s : Int32 × SV) : Prop :=
  s.1 = nI (mkN 24 (spN r X k).2.1) ∧ (∀ d, d < 24 → s.2 0 d = nI ((spN r X k).1 d)) ∧ s.2 8 1 = v0 8 1 + nI (spN r X k).2.2.1 ∧ s.2 8 4 = v0 8 4 + nI (spN r X k).2.2.2.1 ∧ s.2 8 7 = nI (max hot (spN r X k).2.2.2.2) ∧ (∀ k, 1 ≤ k → k < 8 → s.2 k = v0 k) ∧ (∀ k, k < 11 → k ≠ 1 → k ≠ 4 → k ≠ 7 → s.2 8 k = v0 8 k)
theorem cr_step {v v0 : SV} {r : Nat → Int32} {X hot k : Nat} {y2 : Int32} (hI : SI r) (hh0 : ∀ d, d < 24 → aN r d ≤ 900) (hX : X < 2 ^ 24) (hhot : hot ≤ 900) (h1 : ∀ d, d < 24 → v0 1 d = nI (pN r X d)) (h2 : ∀ i, i < 7 → v0 2 i = r (74 + i)) (h81 : v0 8 10 = r 81) (hk : k < ptN r X) (s : Int32 × SV) (hs : CR v0 r X hot k s) :
    CR v0 r X hot (k + 1) (bX2_printLine_45 v (nI X) y2 (nI (aoN r)) (nI (ptN r X)) k s) := by
  obtain ⟨c1, c2, c3, c4, c5, c6, c7⟩ := hs
  obtain ⟨-, ⟨h75, b1, b2⟩, ⟨h76, b3, b4⟩, -, -, ⟨h79, b5⟩, -, h81', b6⟩ := SI_n hI
  obtain ⟨a1, a2⟩ := aoN_le hI
  have hp := ptN_le hI X
  obtain ⟨l1, l2⟩ := sp_le hI hh0 hX k
  have ps : ∀ d, 20 ≤ pN r X d ∧ pN r X d ≤ 325 := fun d => (pN_spec hI X d).2
  have e2 : s.2 2 = v0 2 := c6 2 (by omega) (by omega)
  have eM : fX2_dotsOfPart s.2 (nI X) (nI k) (nI (ptN r X)) (nI (aoN r)) = nI (mkN 24 (mbr r X k)) := dotsOfPart_2 hX hk hp a1 a2 (by rw [e2, h2 5 (by omega)]; exact h79) b5
  have e1 : s.2 1 = v0 1 := c6 1 (by omega) (by omega)
  have hs1 : s.2 2 1 = nI (aN r 75) := by rw [e2, h2 1 (by omega)]; exact h75
  have eW : fX2_waitOfPart s.2 (nI (mkN 24 (mbr r X k))) = nI (wtN (aN r 75) (aN r 76) (pN r X) (mbr r X k) (spN r X k).1) :=
    waitOfPart_2 (p := pN r X) (mbr r X k) hs1 (by omega) (by omega) (by rw [e2, h2 2 (by omega)]; exact h76) b4 (fun d _ => by have := ps d; omega) l1 c2 (fun d hd => by rw [e1]; exact h1 d hd)
  have lW : wtN (aN r 75) (aN r 76) (pN r X) (mbr r X k) (spN r X k).1 ≤ 900 := wtN_le l1
  unfold bX2_printLine_45
  dsimp only
  rw [eM, eW]
  have T1 := pu_time (v := s.2) (c := aN r 75) (t := wtN (aN r 75) (aN r 76) (pN r X) (mbr r X k) (spN r X k).1) (h := (spN r X k).1) (by omega) (by omega) (by omega) (fun d => by have := l1 d; omega) hs1 c2
  obtain ⟨r14, e14⟩ : ∃ z, z = fX2_passTime s.2 (nI (wtN (aN r 75) (aN r 76) (pN r X) (mbr r X k) (spN r X k).1)) := ⟨_, rfl⟩
  rw [← e14] at T1 ⊢
  obtain ⟨t1, t2, t3, t4⟩ := T1
  have H := heatPart_2 (v := mkS (r14 0) (r14 1) (r14 2) (r14 3) (r14 4) (r14 5) (r14 6) (r14 7) (r14 8 0) (r14 8 1) (r14 8 2) (r14 8 3) (r14 8 4 + nI (wtN (aN r 75) (aN r 76) (pN r X) (mbr r X k) (spN r X k).1)) (r14 8 5) (r14 8 6) (r14 8 7) (r14 8 8) (r14 8 9) (r14 8 10)) (pp := aN r 81) (hot := max hot (spN r X k).2.2.2.2) (h := h1N (aN r 75) (aN r 76) (pN r X) (mbr r X k) (spN r X k).1) (p := pN r X) (mbr r X k)
    (by show r14 8 10 = _; rw [t4 10 (by omega) (by omega), c7 10 (by omega) (by omega) (by omega) (by omega), h81]; exact h81') b6 (fun d _ => by have := ps d; omega) (fun d => h1N_le l1 d) (Nat.le_trans (Nat.max_le.mpr ⟨hhot, l2⟩) (by omega))
    (fun d hd => by show r14 0 d = _; rw [t1, if_pos hd]; rfl) (fun d hd => by show r14 1 d = _; rw [t2 1 (by omega) (by omega), e1]; exact h1 d hd) (by show r14 8 7 = _; rw [t4 7 (by omega) (by omega)]; exact c5)
  obtain ⟨r18, e18⟩ : ∃ z, z = fX2_heatPart (mkS (r14 0) (r14 1) (r14 2) (r14 3) (r14 4) (r14 5) (r14 6) (r14 7) (r14 8 0) (r14 8 1) (r14 8 2) (r14 8 3) (r14 8 4 + nI (wtN (aN r 75) (aN r 76) (pN r X) (mbr r X k) (spN r X k).1)) (r14 8 5) (r14 8 6) (r14 8 7) (r14 8 8) (r14 8 9) (r14 8 10)) (nI (mkN 24 (mbr r X k))) := ⟨_, rfl⟩
  rw [← e18] at H ⊢
  obtain ⟨g1, g2, g3, g4, g5⟩ := H
  have f1 : ∀ j, 1 ≤ j → j < 8 → r18.1 j = v0 j := fun j j1 j2 => (g4 j j1 j2).trans (al7 (P := fun j => mkS (r14 0) (r14 1) (r14 2) (r14 3) (r14 4) (r14 5) (r14 6) (r14 7) (r14 8 0) (r14 8 1) (r14 8 2) (r14 8 3) (r14 8 4 + nI (wtN (aN r 75) (aN r 76) (pN r X) (mbr r X k) (spN r X k).1)) (r14 8 5) (r14 8 6) (r14 8 7) (r14 8 8) (r14 8 9) (r14 8 10) j = v0 j) ((t2 1 (by omega) (by omega)).trans (c6 1 (by omega) (by omega))) ((t2 2 (by omega) (by omega)).trans (c6 2 (by omega) (by omega))) ((t2 3 (by omega) (by omega)).trans (c6 3 (by omega) (by omega))) ((t2 4 (by omega) (by omega)).trans (c6 4 (by omega) (by omega))) ((t2 5 (by omega) (by omega)).trans (c6 5 (by omega) (by omega))) ((t2 6 (by omega) (by omega)).trans (c6 6 (by omega) (by omega))) ((t2 7 (by omega) (by omega)).trans (c6 7 (by omega) (by omega))) j j1 j2)
  have eL : fX2_longestPulse r18.1 (nI (mkN 24 (mbr r X k))) = nI (mxN 24 (mbr r X k) (pN r X)) := longestPulse_2 (mbr r X k) (fun d _ => by have := ps d; omega) (fun d hd => by rw [f1 1 (by omega) (by omega)]; exact h1 d hd)
  have lL : mxN 24 (mbr r X k) (pN r X) ≤ 325 := mxN_le 24 (fun d _ _ => (ps d).2)
  have eQ : nI (mxN 24 (mbr r X k) (pN r X)) / 10 + 1 = nI (mxN 24 (mbr r X k) (pN r X) / 10 + 1) := by
    rw [show nI (mxN 24 (mbr r X k) (pN r X)) / 10 = nI (mxN 24 (mbr r X k) (pN r X) / 10) from pk_div (d := 10) (by omega) (by omega) (by omega), nI_1]
  rw [eL, eQ]
  have hl2 := h2N_le (c := aN r 75) (p := pN r X) l1 (fun d => (ps d).2) b3 b4 (mbr_24 (r := r) (k := k) hX)
  have T2 := pu_time (v := r18.1) (c := aN r 75) (t := mxN 24 (mbr r X k) (pN r X) / 10 + 1) (h := h2N (mbr r X k) (h1N (aN r 75) (aN r 76) (pN r X) (mbr r X k) (spN r X k).1) (pN r X)) (by omega) (by omega) (by omega) (fun d => by have := hl2 d; omega) (by rw [f1 2 (by omega) (by omega), h2 1 (by omega)]; exact h75) g2
  obtain ⟨r20, e20⟩ : ∃ z, z = fX2_passTime r18.1 (nI (mxN 24 (mbr r X k) (pN r X) / 10 + 1)) := ⟨_, rfl⟩
  rw [← e20] at T2 ⊢
  obtain ⟨u1, u2, u3, u4⟩ := T2
  refine ⟨?_, fun d hd => ?_, ?_, ?_, ?_, fun j j1 j2 => (u2 j j1 j2).trans (f1 j j1 j2), ?_⟩
  · show s.1 ||| r18.2 = _
    rw [c1, g1, nx_or, mkN_or]
    rfl
  · show r20 0 d = _
    rw [u1, if_pos hd]
    rfl
  · show r20 8 1 = _
    rw [u3, g5 1 (by omega) (by omega)]
    show r14 8 1 + _ = _
    rw [t3, c3, Int32.add_assoc, Int32.add_assoc, nI_add, nI_add]
    rfl
  · show r20 8 4 = _
    rw [u4 4 (by omega) (by omega), g5 4 (by omega) (by omega)]
    show r14 8 4 + _ = _
    rw [t4 4 (by omega) (by omega), c4, Int32.add_assoc, nI_add]
    rfl
  · show r20 8 7 = _
    rw [u4 7 (by omega) (by omega), g3, Nat.max_assoc]
    rfl
  · have sc : ∀ j, j < 11 → j ≠ 1 → j ≠ 4 → j ≠ 7 → mkS (r14 0) (r14 1) (r14 2) (r14 3) (r14 4) (r14 5) (r14 6) (r14 7) (r14 8 0) (r14 8 1) (r14 8 2) (r14 8 3) (r14 8 4 + nI (wtN (aN r 75) (aN r 76) (pN r X) (mbr r X k) (spN r X k).1)) (r14 8 5) (r14 8 6) (r14 8 7) (r14 8 8) (r14 8 9) (r14 8 10) 8 j = r14 8 j := al11 (fun _ _ _ => rfl) (fun q => absurd rfl q) (fun _ _ _ => rfl) (fun _ _ _ => rfl) (fun _ q => absurd rfl q) (fun _ _ _ => rfl) (fun _ _ _ => rfl) (fun _ _ q => absurd rfl q) (fun _ _ _ => rfl) (fun _ _ _ => rfl) (fun _ _ _ => rfl)
    intro j j1 j2 j3 j4
    show r20 8 j = _
    rw [u4 j j1 j2, g5 j j1 j4, sc j j1 j2 j3 j4, t4 j j1 j2]
    exact c7 j j1 j2 j3 j4

/-! from 72.pure14.lean.txt -/
def inB (r : Nat → Int32) (X k d : Nat) : Bool := X.testBit d && decide (prt (aN r 79) (ptN r X) (aoN r) X d < k)
theorem inB_s (r : Nat → Int32) (X k d : Nat) : nI (inB r X k d).toNat + nI (mbr r X k d).toNat = nI (inB r X (k + 1) d).toNat := by
  unfold inB mbr memb
  generalize prt (aN r 79) (ptN r X) (aoN r) X d = a
  cases X.testBit d with
  | false => rfl
  | true =>
    rw [Bool.true_and, Bool.true_and, Bool.true_and]
    by_cases h1 : a < k
    · rw [decide_eq_true h1, decide_eq_false (show ¬ a = k by omega), decide_eq_true (show a < k + 1 by omega)]
      rfl
    · by_cases h2 : a = k
      · rw [decide_eq_false h1, decide_eq_true h2, decide_eq_true (show a < k + 1 by omega)]
        rfl
      · rw [decide_eq_false h1, decide_eq_false h2, decide_eq_false (show ¬ a < k + 1 by omega)]
        rfl
theorem inB_f {r : Nat → Int32} {X k d : Nat} {D : Bool} (z : Bool) (hD : D = true → inB r X k d = true) : nI (inB r X k d && !D).toNat + nI (mbr r X k d && !z).toNat = nI (inB r X (k + 1) d && !(D || (mbr r X k d && z))).toNat := by
  unfold inB at hD ⊢
  unfold mbr memb
  generalize prt (aN r 79) (ptN r X) (aoN r) X d = a at hD ⊢
  revert hD
  cases X.testBit d with
  | false => intro _; rfl
  | true =>
    rw [Bool.true_and, Bool.true_and, Bool.true_and]
    by_cases h1 : a < k
    · rw [decide_eq_true h1, decide_eq_false (show ¬ a = k by omega), decide_eq_true (show a < k + 1 by omega)]
      intro _
      cases D <;> cases z <;> rfl
    · intro hD
      have hD : D = false := by
        cases D with
        | false => rfl
        | true => exact absurd (of_decide_eq_true (hD rfl)) h1
      subst hD
      by_cases h2 : a = k
      · rw [decide_eq_false h1, decide_eq_true h2, decide_eq_true (show a < k + 1 by omega)]
        cases z <;> rfl
      · rw [decide_eq_false h1, decide_eq_false h2, decide_eq_false (show ¬ a < k + 1 by omega)]
        cases z <;> rfl
theorem aN_e {r r' : Nat → Int32} {k : Nat} (h : r' k = r k) : aN r' k = aN r k := by
  unfold aN
  rw [h]
theorem ptN_congr {r r' : Nat → Int32} (h77 : r' 77 = r 77) (h78 : r' 78 = r 78) (X : Nat) : aoN r' = aoN r ∧ ptN r' X = ptN r X := by
  have e : aoN r' = aoN r := by
    unfold aoN
    rw [aN_e h77, aN_e h78]
  refine ⟨e, ?_⟩
  unfold ptN
  rw [e]
theorem mbr_congr {r r' : Nat → Int32} (h77 : r' 77 = r 77) (h78 : r' 78 = r 78) (h79 : r' 79 = r 79) (X k : Nat) : mbr r' X k = mbr r X k := by
  obtain ⟨e1, e2⟩ := ptN_congr h77 h78 X
  unfold mbr
  rw [e1, e2, aN_e h79]
