/-! the JDK's bitCount counts the bits -/
theorem and_cat {a b c d : Nat} (hb : b < 2 ^ 8) (hd : d < 2 ^ 8) : (2 ^ 8 * a + b) &&& (2 ^ 8 * c + d) = 2 ^ 8 * (a &&& c) + (b &&& d) := by
  apply Nat.eq_of_testBit_eq
  intro j
  rw [Nat.testBit_and, Nat.testBit_two_pow_mul_add a hb j, Nat.testBit_two_pow_mul_add c hd j, Nat.testBit_two_pow_mul_add (a &&& c) (Nat.and_lt_two_pow b hd) j, Nat.testBit_and, Nat.testBit_and]
  split <;> rfl
theorem and_3 {x0 x1 x2 : Nat} (h0 : x0 < 256) (h1 : x1 < 256) (k : Nat) (hk : k < 256) (t : Nat) : (x0 + 256 * x1 + 65536 * x2) &&& (k + 256 * k + 65536 * (k + 256 * t)) = (x0 &&& k) + 256 * (x1 &&& k) + 65536 * (x2 &&& (k + 256 * t)) := by
  rw [show x0 + 256 * x1 + 65536 * x2 = 2 ^ 8 * (2 ^ 8 * x2 + x1) + x0 by omega, show k + 256 * k + 65536 * (k + 256 * t) = 2 ^ 8 * (2 ^ 8 * (k + 256 * t) + k) + k by omega, and_cat (by omega) (by omega), and_cat (by omega) (by omega)]
  omega
theorem and_t {x k t : Nat} (hx : x < 256) (hk : k < 256) : x &&& (k + 256 * t) = x &&& k := by
  have h := and_cat (a := 0) (b := x) (c := t) (d := k) (by omega) (by omega)
  rw [Nat.zero_and] at h
  simpa [Nat.add_comm] using h
def pA (y : Nat) : Nat := y - ((y / 2) &&& 85)
def pB (y : Nat) : Nat := (pA y &&& 51) + ((pA y / 4) &&& 51)
def pC (y : Nat) : Nat := (pB y + pB y / 16) % 16
theorem p_85 : ∀ y, y < 128 → ∀ b, b < 2 → (y + 128 * b) &&& 85 = y &&& 85 := by decide +kernel
theorem p_51 : ∀ y, y < 64 → ∀ b, b < 4 → (y + 64 * b) &&& 51 = y &&& 51 := by decide +kernel
theorem p_A : ∀ y, y < 256 → ((y / 2) &&& 85) ≤ y ∧ pA y < 256 ∧ pB y ≤ 68 ∧ pB y % 16 ≤ 4 ∧ pC y = cntN y 8 := by decide +kernel
theorem cntN_cat {a Y : Nat} (ha : a < 256) (n : Nat) : cntN (a + 256 * Y) (8 + n) = cntN a 8 + cntN Y n := by
  have tb : ∀ j, (a + 256 * Y).testBit j = if j < 8 then a.testBit j else Y.testBit (j - 8) := fun j => by
    rw [show a + 256 * Y = 2 ^ 8 * Y + a by omega]
    exact Nat.testBit_two_pow_mul_add Y (by omega) j
  induction n with
  | zero =>
    have h : ∀ k, k ≤ 8 → cntN (a + 256 * Y) k = cntN a k := by
      intro k
      induction k with
      | zero => exact fun _ => rfl
      | succ k ih =>
        intro hk
        show cntN (a + 256 * Y) k + ((a + 256 * Y).testBit k).toNat = cntN a k + (a.testBit k).toNat
        rw [ih (by omega), tb, if_pos (by omega)]
    exact h 8 (by omega)
  | succ n ih =>
    show cntN (a + 256 * Y) (8 + n) + ((a + 256 * Y).testBit (8 + n)).toNat = cntN a 8 + (cntN Y n + (Y.testBit n).toNat)
    rw [ih, tb, if_neg (by omega), show 8 + n - 8 = n by omega, Nat.add_assoc]
theorem u_k : ((1 : Int32).toUInt32 &&& Int32.toUInt32 31).toBitVec % 32 = 1 ∧ ((2 : Int32).toUInt32 &&& Int32.toUInt32 31).toBitVec % 32 = 2 ∧ ((4 : Int32).toUInt32 &&& Int32.toUInt32 31).toBitVec % 32 = 4 ∧ ((8 : Int32).toUInt32 &&& Int32.toUInt32 31).toBitVec % 32 = 8 ∧ ((16 : Int32).toUInt32 &&& Int32.toUInt32 31).toBitVec % 32 = 16 := by decide +kernel
theorem us1 {n : Nat} (h : n < 2 ^ 32) : ((nI n).toUInt32 >>> ((1 : Int32).toUInt32 &&& Int32.toUInt32 31)).toInt32 = nI (n / 2) := pk_ushrN h 1 1 (by rw [u_k.1]; rfl)
theorem us2 {n : Nat} (h : n < 2 ^ 32) : ((nI n).toUInt32 >>> ((2 : Int32).toUInt32 &&& Int32.toUInt32 31)).toInt32 = nI (n / 4) := pk_ushrN h 2 2 (by rw [u_k.2.1]; rfl)
theorem us4 {n : Nat} (h : n < 2 ^ 32) : ((nI n).toUInt32 >>> ((4 : Int32).toUInt32 &&& Int32.toUInt32 31)).toInt32 = nI (n / 16) := pk_ushrN h 4 4 (by rw [u_k.2.2.1]; rfl)
theorem us8 {n : Nat} (h : n < 2 ^ 32) : ((nI n).toUInt32 >>> ((8 : Int32).toUInt32 &&& Int32.toUInt32 31)).toInt32 = nI (n / 256) := pk_ushrN h 8 8 (by rw [u_k.2.2.2.1]; rfl)
theorem us16 {n : Nat} (h : n < 2 ^ 32) : ((nI n).toUInt32 >>> ((16 : Int32).toUInt32 &&& Int32.toUInt32 31)).toInt32 = nI (n / 65536) := pk_ushrN h 16 16 (by rw [u_k.2.2.2.2]; rfl)
theorem nx_and (a b : Nat) : nI a &&& nI b = nI (a &&& b) := b_ext (fun i hi => by rw [b_and, b_nI _ hi, b_nI _ hi, b_nI _ hi, Nat.testBit_and])
def bcA (x : Int32) : Int32 := x - (((x.toUInt32 >>> ((1 : Int32).toUInt32 &&& Int32.toUInt32 31)).toInt32) &&& 1431655765)
def bcB (x : Int32) : Int32 := (x &&& 858993459) + (((x.toUInt32 >>> ((2 : Int32).toUInt32 &&& Int32.toUInt32 31)).toInt32) &&& 858993459)
def bcC (x : Int32) : Int32 := (x + ((x.toUInt32 >>> ((4 : Int32).toUInt32 &&& Int32.toUInt32 31)).toInt32)) &&& 252645135
def bcD (x : Int32) : Int32 := x + ((x.toUInt32 >>> ((8 : Int32).toUInt32 &&& Int32.toUInt32 31)).toInt32)
def bcE (x : Int32) : Int32 := (x + ((x.toUInt32 >>> ((16 : Int32).toUInt32 &&& Int32.toUInt32 31)).toInt32)) &&& 63
theorem bc_def (x : Int32) : fJ6_bitCount_0f7a4 x = bcE (bcD (bcC (bcB (bcA x)))) := rfl
theorem lowmod (y : Nat) : y &&& 15 = y % 16 := Nat.and_two_pow_sub_one_eq_mod y 4
theorem bitCount_3 {x0 x1 x2 : Nat} (h0 : x0 < 256) (h1 : x1 < 256) (h2 : x2 < 256) : fJ6_bitCount_0f7a4 (nI (x0 + 256 * x1 + 65536 * x2)) = nI (cntN x0 8 + cntN x1 8 + cntN x2 8) := by
  obtain ⟨a0, b0, c0, d0, e0⟩ := p_A x0 h0
  obtain ⟨a1, b1, c1, d1, e1⟩ := p_A x1 h1
  obtain ⟨a2, b2, c2, d2, e2⟩ := p_A x2 h2
  have m0 : pC x0 < 16 := Nat.mod_lt _ (by omega)
  have m1 : pC x1 < 16 := Nat.mod_lt _ (by omega)
  have m2 : pC x2 < 16 := Nat.mod_lt _ (by omega)
  have k0 : cntN x0 8 ≤ 8 := cntN_le _ _
  have k1 : cntN x1 8 ≤ 8 := cntN_le _ _
  have k2 : cntN x2 8 ≤ 8 := cntN_le _ _
  have A : bcA (nI (x0 + 256 * x1 + 65536 * x2)) = nI (pA x0 + 256 * pA x1 + 65536 * pA x2) := by
    unfold bcA
    rw [us1 (by omega), show (x0 + 256 * x1 + 65536 * x2) / 2 = (x0 / 2 + 128 * (x1 % 2)) + 256 * (x1 / 2 + 128 * (x2 % 2)) + 65536 * (x2 / 2) by omega, show (1431655765 : Int32) = nI (85 + 256 * 85 + 65536 * (85 + 256 * 85)) from rfl, nx_and, and_3 (by omega) (by omega) 85 (by omega) 85, p_85 (x0 / 2) (by omega) _ (by omega), p_85 (x1 / 2) (by omega) _ (by omega), and_t (x := x2 / 2) (by omega) (by omega), pk_sub (by omega)]
    congr 1
    unfold pA
    omega
  have B : bcB (nI (pA x0 + 256 * pA x1 + 65536 * pA x2)) = nI (pB x0 + 256 * pB x1 + 65536 * pB x2) := by
    unfold bcB
    rw [us2 (by omega), show (pA x0 + 256 * pA x1 + 65536 * pA x2) / 4 = (pA x0 / 4 + 64 * (pA x1 % 4)) + 256 * (pA x1 / 4 + 64 * (pA x2 % 4)) + 65536 * (pA x2 / 4) by omega, show (858993459 : Int32) = nI (51 + 256 * 51 + 65536 * (51 + 256 * 51)) from rfl, nx_and, nx_and, and_3 (by omega) (by omega) 51 (by omega) 51, and_3 (by omega) (by omega) 51 (by omega) 51, p_51 (pA x0 / 4) (by omega) _ (by omega), p_51 (pA x1 / 4) (by omega) _ (by omega), and_t (x := pA x2 / 4) (by omega) (by omega), and_t (x := pA x2) (by omega) (by omega), nI_add]
    congr 1
    unfold pB
    omega
  have C : bcC (nI (pB x0 + 256 * pB x1 + 65536 * pB x2)) = nI (pC x0 + 256 * pC x1 + 65536 * pC x2) := by
    unfold bcC
    rw [us4 (by omega), nI_add, show (pB x0 + 256 * pB x1 + 65536 * pB x2) + (pB x0 + 256 * pB x1 + 65536 * pB x2) / 16 = (pB x0 + pB x0 / 16 + 16 * (pB x1 % 16)) + 256 * (pB x1 + pB x1 / 16 + 16 * (pB x2 % 16)) + 65536 * (pB x2 + pB x2 / 16) by omega, show (252645135 : Int32) = nI (15 + 256 * 15 + 65536 * (15 + 256 * 15)) from rfl, nx_and, and_3 (by omega) (by omega) 15 (by omega) 15, and_t (x := pB x2 + pB x2 / 16) (by omega) (by omega), lowmod, lowmod, lowmod]
    congr 1
    unfold pC
    omega
  have D : bcD (nI (pC x0 + 256 * pC x1 + 65536 * pC x2)) = nI ((pC x0 + pC x1) + 256 * (pC x1 + pC x2) + 65536 * pC x2) := by
    unfold bcD
    rw [us8 (by omega), nI_add]
    congr 1
    omega
  have E : bcE (nI ((pC x0 + pC x1) + 256 * (pC x1 + pC x2) + 65536 * pC x2)) = nI (pC x0 + pC x1 + pC x2) := by
    unfold bcE
    rw [us16 (by omega), nI_add, show nI ((pC x0 + pC x1) + 256 * (pC x1 + pC x2) + 65536 * pC x2 + ((pC x0 + pC x1) + 256 * (pC x1 + pC x2) + 65536 * pC x2) / 65536) &&& 63 = nI (((pC x0 + pC x1) + 256 * (pC x1 + pC x2) + 65536 * pC x2 + ((pC x0 + pC x1) + 256 * (pC x1 + pC x2) + 65536 * pC x2) / 65536) % 64) from pk_andN (by omega) 6 rfl]
    congr 1
    have q1 : ((pC x0 + pC x1) + 256 * (pC x1 + pC x2) + 65536 * pC x2) / 65536 = pC x2 := by
      clear a0 a1 a2 A B C D e0 e1 e2 k0 k1 k2
      omega
    rw [q1]
    clear a0 a1 a2 A B C D e0 e1 e2 k0 k1 k2 q1
    omega
  rw [bc_def, A, B, C, D, E, e0, e1, e2]
theorem bitCount_n {X : Nat} (hX : X < 2 ^ 24) : fJ6_bitCount_0f7a4 (nI X) = nI (cntN X 24) := by
  have e : X = X % 256 + 256 * (X / 256 % 256) + 65536 * (X / 65536) := by omega
  have h := bitCount_3 (x0 := X % 256) (x1 := X / 256 % 256) (x2 := X / 65536) (by omega) (by omega) (by omega)
  rw [← e] at h
  rw [h]
  congr 1
  have h1 := cntN_cat (a := X % 256) (Y := X / 256 % 256 + 256 * (X / 65536)) (by omega) 16
  have h2 := cntN_cat (a := X / 256 % 256) (Y := X / 65536) (by omega) 8
  rw [show X % 256 + 256 * (X / 256 % 256 + 256 * (X / 65536)) = X by omega] at h1
  rw [show (24 : Nat) = 8 + 16 from rfl, h1, show (16 : Nat) = 8 + 8 from rfl, h2]
  omega
theorem bitCount_mk (p : Nat → Bool) : fJ6_bitCount_0f7a4 (nI (mkN 24 p)) = smF 24 (fun d => nI (p d).toNat) := by
  rw [bitCount_n (mkN_lt p 24), ← smN_cnt]
  refine (smF_N 24 (fun d hd => ?_)).symm
  rw [tb_mkN, decide_eq_true hd, Bool.true_and]
