/-! from 22.md1.lean.txt -/
/-- the settings and the paper in a row of the reference -/
def SI (r : Nat → Int32) : Prop := (∃ c, 50 ≤ c ∧ c ≤ 300 ∧ r 74 = nI c) ∧ (∃ c, 5 ≤ c ∧ c ≤ 200 ∧ r 75 = nI c) ∧ (∃ c, 330 ≤ c ∧ c ≤ 900 ∧ r 76 = nI c) ∧ (∃ c, 1 ≤ c ∧ c ≤ 20 ∧ r 77 = nI c) ∧ (∃ c, 1 ≤ c ∧ c ≤ 200 ∧ r 78 = nI c) ∧ (∃ c, c ≤ 1 ∧ r 79 = nI c) ∧ (∃ c, c ≤ 50 ∧ r 80 = nI c) ∧ (∃ c, c ≤ 2 ∧ r 81 = nI c)
theorem SI_congr {r r2 : Nat → Int32} (h : ∀ k, 74 ≤ k → k ≤ 81 → r2 k = r k) (hI : SI r) : SI r2 := by
  unfold SI at hI ⊢
  rw [h 74 (by omega) (by omega), h 75 (by omega) (by omega), h 76 (by omega) (by omega), h 77 (by omega) (by omega), h 78 (by omega) (by omega), h 79 (by omega) (by omega), h 80 (by omega) (by omega), h 81 (by omega) (by omega)]
  exact hI
theorem SI_upd {r : Nat → Int32} {k : Nat} {x : Int32} (hI : SI r) (h : k < 74 ∨ 81 < k) : SI (upd r k x) := SI_congr (fun j h1 h2 => pk_un (by omega)) hI
/-! from 24.md3a.lean.txt -/
/-- the rounds that the loop of a wait is given: more than a heat can be -/
def mT : Nat := 2147483648
def bd (x : Int32) (a b : Int) : Prop := a ≤ x.toInt ∧ x.toInt ≤ b
theorem bd_i (x : Int32) : -2147483648 ≤ x.toInt ∧ x.toInt ≤ 2147483647 := ⟨Int32.le_toInt x, by have := Int32.toInt_lt x; omega⟩
theorem bd_add {x y : Int32} {a b c d : Int} (h1 : bd x a b) (h2 : bd y c d) (ha : -2147483648 ≤ a + c) (hb : b + d ≤ 2147483647) : bd (x + y) (a + c) (b + d) := by
  obtain ⟨h1, h1'⟩ := h1
  obtain ⟨h2, h2'⟩ := h2
  unfold bd
  rw [Int32.toInt_add, Int.bmod_eq_of_le (by omega) (by omega)]
  omega
theorem bd_sub {x y : Int32} {a b c d : Int} (h1 : bd x a b) (h2 : bd y c d) (ha : -2147483648 ≤ a - d) (hb : b - c ≤ 2147483647) : bd (x - y) (a - d) (b - c) := by
  obtain ⟨h1, h1'⟩ := h1
  obtain ⟨h2, h2'⟩ := h2
  unfold bd
  rw [Int32.toInt_sub, Int.bmod_eq_of_le (by omega) (by omega)]
  omega
theorem bd_nI {c : Nat} {a b : Int} (ha : a ≤ c) (hb : (c : Int) ≤ b) (h : c < 2 ^ 31) : bd (nI c) a b := by
  unfold bd
  rw [nI_toInt (by omega)]
  exact ⟨ha, hb⟩
theorem tdivq (x : Int) (c : Nat) (h5 : 5 ≤ c) (h200 : c ≤ 200) : ∃ q : Nat, 5 * q ≤ x.natAbs ∧ (200 ≤ x.natAbs → 1 ≤ q) ∧ (0 ≤ x → x.tdiv c = q) ∧ (x < 0 → x.tdiv c = -(q : Int)) := by
  refine ⟨x.natAbs / c, ?_, ?_, ?_, ?_⟩
  · have h1 : c * (x.natAbs / c) ≤ x.natAbs := Nat.mul_div_le _ _
    have h2 : 5 * (x.natAbs / c) ≤ c * (x.natAbs / c) := Nat.mul_le_mul_right _ h5
    exact Nat.le_trans h2 h1
  · intro h
    exact Nat.div_pos (by omega) (by omega)
  · intro h
    have e : x = (x.natAbs : Int) := by omega
    conv => lhs; rw [e]
    rfl
  · intro h
    have e : x = -(x.natAbs : Int) := by omega
    conv => lhs; rw [e]
    rw [Int.neg_tdiv]
    rfl
theorem lpF_ind {σ : Type} (P : Nat → σ → Prop) {b : Nat → σ → σ} : ∀ (n d : Nat) (s : σ), (∀ d' s, d ≤ d' → d' < d + n → P d' s → P (d' + 1) (b d' s)) → P d s → P (d + n) (lpF n d b s)
  | 0, _, _, _, h => h
  | n + 1, d, s, hb, h => by
    have := lpF_ind P n (d + 1) (b d s) (fun d' s' h1 h2 => hb d' s' (by omega) (by omega)) (hb d s (by omega) (by omega) h)
    rw [show d + (n + 1) = d + 1 + n by omega]
    exact this
/-! from 25.md3b.lean.txt -/
theorem lpT_no {σ : Type} {n : Nat} {g : σ → Bool × σ} {s t : σ} (h : g s = (false, t)) : lpT (n + 1) g s := Or.inl (by rw [h])
theorem lpT_yes {σ : Type} {n : Nat} {g : σ → Bool × σ} {s t : σ} (h : g s = (true, t)) (h2 : lpT n g t) : lpT (n + 1) g s := Or.inr (by rw [h]; exact h2)
/-! from 27.md5.lean.txt -/
theorem lpB_meas {σ : Type} {g : σ → Bool × σ} (μ : σ → Int32) (stop : ∀ s, (μ s).toNatClampNeg = 0 → (g s).1 = false) (step : ∀ s, (g s).1 = false ∨ (μ (g s).2).toNatClampNeg ≤ (μ s).toNatClampNeg - 1) : ∀ (n : Nat) (s : σ), (μ s).toNatClampNeg ≤ n → lpT (n + 1) g s := by
  intro n
  induction n with
  | zero => intro s h; exact Or.inl (stop s (Nat.le_zero.mp h))
  | succ n ih =>
    intro s h
    rcases step s with e | e
    · exact Or.inl e
    · exact Or.inr (ih _ (by omega))
theorem lpB_mT {σ : Type} {g : σ → Bool × σ} (μ : σ → Int32) (stop : ∀ s, (μ s).toNatClampNeg = 0 → (g s).1 = false) (step : ∀ s, (g s).1 = false ∨ (μ (g s).2).toNatClampNeg ≤ (μ s).toNatClampNeg - 1) (s : σ) : lpT (mT + 1) g s := lpB_meas μ stop step mT s (Nat.le_of_lt (cl_lt _))
theorem cl_0 {x : Int32} (h : x.toNatClampNeg = 0) : bd x (-2147483648) 0 := by
  refine ⟨(bd_i _).1, ?_⟩
  have : x.toInt.toNat = 0 := h
  omega
/-! from 29.md7.lean.txt -/
theorem lpR_r {σ ρ : Type} {b : Nat → σ → σ ⊕ ρ} {n d : Nat} {s : σ} {r : ρ} (h : b d s = .inr r) : lpR (n + 1) d b s = .inr r := by
  simp only [lpR, h]
theorem lpR_l {σ ρ : Type} {b : Nat → σ → σ ⊕ ρ} {n d : Nat} {s s' : σ} (h : b d s = .inl s') : lpR (n + 1) d b s = lpR n (d + 1) b s' := by
  simp only [lpR, h]
/-! from 31.fp.lean.txt -/
def fJxe99ae_isNaN_b9ae7 (x1 : UInt64) : Int32 := if (Op.cmpValue (FP.dcmp x1 x1) .l) = 0 then (0) else (1)
def fJxe99ae_doubleToLongBits_ccdee (x1 : UInt64) : Int64 := if (fJxe99ae_isNaN_b9ae7 x1) = 0 then (x1.toInt64) else (9221120237041090560)
/-! from 58.cls7.lean.txt -/
def mv0 : SV := mkM (upd (upd (upd (upd (upd (upd (fun _ => 0) 74 120) 75 40) 76 500) 77 8) 78 100) 80 5) zF zF zF zF zF zF zF 0 0 0 0 0 0 0 0 0
/-! from 59.pure1.lean.txt -/
def smF : Nat → (Nat → Int32) → Int32
  | 0, _ => 0
  | n + 1, f => smF n f + f n
theorem smF_congr {f g : Nat → Int32} (n : Nat) (h : ∀ d, d < n → f d = g d) : smF n f = smF n g := by
  induction n with
  | zero => rfl
  | succ n ih =>
    show smF n f + f n = smF n g + g n
    rw [ih (fun d hd => h d (by omega)), h n (by omega)]
def RelS (v : SV) (r : Nat → Int32) : Prop :=
  (∀ d, d < 24 → v 0 d = r d) ∧ (v 8 8 = r 24 ∧ v 8 9 = r 25) ∧ (∀ d, d < 24 → v 6 d = r (26 + d)) ∧ (∀ d, d < 24 → v 7 d = r (50 + d)) ∧ (∀ i, i < 7 → v 2 i = r (74 + i)) ∧
  (v 8 10 = r 81 ∧ v 8 1 = r 82 ∧ v 8 2 = r 83 ∧ v 8 3 = r 84 ∧ v 8 4 = r 85 ∧ v 8 7 = r 86 ∧ v 8 0 = r 87) ∧ (∀ j, j < (r 87).toNatClampNeg → j < 12 → v 3 j = r (88 + 3 * j) ∧ v 4 j = r (89 + 3 * j) ∧ v 5 j = r (90 + 3 * j)) ∧
  v 8 5 = smF 24 (fun d => r (26 + d)) ∧ v 8 6 = smF 24 (fun d => r (50 + d))
theorem RelS_new : RelS sv0 (mv0 0) := by
  unfold RelS
  decide +kernel

/-! from 60.pure2.lean.txt -/
def cool (c h : Nat) : Nat := h - h / c - 1
theorem cool_le (c h : Nat) : cool c h ≤ h := Nat.le_trans (Nat.sub_le _ _) (Nat.sub_le _ _)
theorem cool_z (c : Nat) : cool c 0 = 0 := Nat.le_zero.mp (cool_le c 0)
def coolN (c : Nat) : Nat → Nat → Nat
  | 0, h => h
  | t + 1, h => coolN c t (cool c h)
theorem coolN_z (c t : Nat) : coolN c t 0 = 0 := by
  induction t with
  | zero => rfl
  | succ t ih => show coolN c t (cool c 0) = 0; rw [cool_z]; exact ih
theorem coolN_le (c t : Nat) : ∀ h, coolN c t h ≤ h := by
  induction t with
  | zero => exact fun h => Nat.le_refl _
  | succ t ih => exact fun h => Nat.le_trans (ih _) (cool_le c h)
theorem cool_i {c h : Nat} (hc : 1 ≤ c) (hc2 : c < 2 ^ 30) (hh : h < 2 ^ 30) : (h / c < h ∧ nI h - nI h / nI c - 1 = nI (cool c h)) ∨ (cool c h = 0 ∧ nI h - nI h / nI c - 1 = -1) := by
  have hd : h / c ≤ h := Nat.div_le_self _ _
  rw [pk_div (by omega) (by omega) (by omega), pk_sub hd]
  by_cases hlt : h / c < h
  · refine Or.inl ⟨hlt, ?_⟩
    exact pk_sub (a := h - h / c) (b := 1) (by omega)
  · refine Or.inr ⟨?_, ?_⟩
    · unfold cool
      have e : h / c = h := Nat.le_antisymm hd (Nat.not_lt.mp hlt)
      rw [e, Nat.sub_self]
    · have e : h / c = h := Nat.le_antisymm hd (Nat.not_lt.mp hlt)
      rw [e, Nat.sub_self]
      rfl
theorem cooled_X2 {c h : Nat} (hc : 1 ≤ c) (hc2 : c < 2 ^ 30) (hh : h < 2 ^ 30) : fX2_cooled (nI h) (nI c) = nI (cool c h) := by
  have hle := cool_le c h
  unfold fX2_cooled
  rw [if_pos (show (1 : Int32) ≤ nI c from nI_le (a := 1) hc (by omega))]
  rcases cool_i hc hc2 hh with ⟨-, e⟩ | ⟨e1, e⟩
  · rw [e, if_pos (nI_pos' (by omega))]
  · rw [e, e1, if_neg (by decide)]
    rfl
theorem at7 (f : Nat → Int32) (i : Nat) (hi : i < 7) : fX5_at 7 f (nI i) = f i := by
  unfold fX5_at
  rw [if_neg (nI_pos (by omega)), if_neg (nI_ge hi (by omega)), nI_clamp (by omega)]
theorem cooledFor_l {v : SV} {x1 : Int32} {c t : Nat} (hc : 1 ≤ c) (hc2 : c < 2 ^ 30) (ht : t < 2 ^ 30) (n : Nat) : ∀ (i h : Nat), i + n = t + 1 → i ≤ t → h < 2 ^ 30 → (lpB n (bX2_cooledFor_15 v x1 (nI t) (nI c)) (nI h, nI i)).1 = nI (coolN c (t - i) h) := by
  induction n with
  | zero => intro i h h1 h2 h3; omega
  | succ n ih =>
    intro i h h1 h2 h3
    have hle := cool_le c h
    by_cases k1 : t ≤ i
    · have e : bX2_cooledFor_15 v x1 (nI t) (nI c) (nI h, nI i) = (false, (nI h, nI i)) := by
        unfold bX2_cooledFor_15
        exact if_pos (nI_le k1 (by omega))
      rw [lpB, e, show t - i = 0 by omega]
      rfl
    · by_cases k2 : h = 0
      · have e : bX2_cooledFor_15 v x1 (nI t) (nI c) (nI h, nI i) = (false, (nI h, nI i)) := by
          unfold bX2_cooledFor_15
          refine (if_neg (nI_ge (by omega) (by omega))).trans (if_pos ?_)
          rw [k2]
          exact (show nI 0 ≤ 0 by decide)
        rw [lpB, e, k2, coolN_z]
        rfl
      · have e : bX2_cooledFor_15 v x1 (nI t) (nI c) (nI h, nI i) = (true, (nI (cool c h), nI (i + 1))) := by
          unfold bX2_cooledFor_15
          refine (if_neg (nI_ge (by omega) (by omega))).trans ((if_neg (nI_nle (by omega) (by omega))).trans ?_)
          show (true, (fX2_cooled (nI h) (nI c), nI i + 1)) = _
          rw [cooled_X2 hc hc2 h3, nI_1]
        rw [lpB, e]
        show (lpB n (bX2_cooledFor_15 v x1 (nI t) (nI c)) (nI (cool c h), nI (i + 1))).1 = _
        rw [ih (i + 1) (cool c h) (by omega) (by omega) (by omega), show t - i = (t - (i + 1)) + 1 by omega]
        rfl
theorem cooledFor_X2 {v : SV} {c h t : Nat} (hv : v 2 1 = nI c) (hc : 1 ≤ c) (hc2 : c < 2 ^ 30) (hh : h < 2 ^ 30) (ht : t < 2 ^ 30) : fX2_cooledFor v (nI h) (nI t) = nI (coolN c t h) := by
  unfold fX2_cooledFor tX2_cooledFor_15
  dsimp only
  rw [show fX5_at 7 (v 2) 1 = nI c from (at7 (v 2) 1 (by omega)).trans hv, nI_clamp (by omega)]
  exact cooledFor_l hc hc2 ht (t + 1) 0 h (by omega) (by omega) hh

/-! from 62.pure4.lean.txt -/
theorem pu_timeI {v : SV} {c t : Nat} {h : Nat → Nat} (hc : 1 ≤ c) (hc2 : c < 2 ^ 30) (ht : t < 2 ^ 30) (hh : ∀ d, h d < 2 ^ 30) (n : Nat) : ∀ (i : Nat) (s : SV), i + n = 24 → s 2 1 = nI c → (∀ d, i ≤ d → d < 24 → s 0 d = nI (h d)) →
    (∀ d, lpF n i (bX2_passTime_2 v (nI t)) s 0 d = if i ≤ d ∧ d < 24 then nI (coolN c t (h d)) else s 0 d) ∧ (∀ k, 1 ≤ k → k < 8 → lpF n i (bX2_passTime_2 v (nI t)) s k = s k) ∧ (∀ k, k < 11 → lpF n i (bX2_passTime_2 v (nI t)) s 8 k = s 8 k) := by
  induction n with
  | zero =>
    intro i s h1 h2 h3
    refine ⟨fun d => ?_, fun _ _ _ => rfl, fun _ _ => rfl⟩
    rw [if_neg (by omega)]
    rfl
  | succ n ih =>
    intro i s h1 h2 h3
    have e0 : bX2_passTime_2 v (nI t) i s 0 = upd (s 0) i (fX2_cooledFor s (s 0 i) (nI t)) := rfl
    have e1 : fX2_cooledFor s (s 0 i) (nI t) = nI (coolN c t (h i)) := by
      rw [h3 i (Nat.le_refl _) (by omega)]
      exact cooledFor_X2 h2 hc hc2 (hh i) ht
    obtain ⟨a1, a2, a3⟩ := ih (i + 1) (bX2_passTime_2 v (nI t) i s) (by omega) h2 (fun d k1 k2 => by rw [e0, pk_un (by omega)]; exact h3 d (by omega) k2)
    refine ⟨fun d => (a1 d).trans ?_, fun k k1 k2 => (a2 k k1 k2).trans ?_, fun k k1 => (a3 k k1).trans ?_⟩
    · by_cases k1 : d = i
      · subst k1
        rw [if_neg (by omega), if_pos (by omega), e0, pk_us, e1]
      · rw [e0, pk_un k1]
        by_cases k2 : i + 1 ≤ d ∧ d < 24
        · rw [if_pos k2, if_pos (by omega)]
        · rw [if_neg k2, if_neg (by omega)]
    · match k, k1, k2 with
      | 1, _, _ => rfl
      | 2, _, _ => rfl
      | 3, _, _ => rfl
      | 4, _, _ => rfl
      | 5, _, _ => rfl
      | 6, _, _ => rfl
      | 7, _, _ => rfl
      | k + 8, _, h => exact absurd h (by omega)
    · match k, k1 with
      | 0, _ => rfl
      | 1, _ => rfl
      | 2, _ => rfl
      | 3, _ => rfl
      | 4, _ => rfl
      | 5, _ => rfl
      | 6, _ => rfl
      | 7, _ => rfl
      | 8, _ => rfl
      | 9, _ => rfl
      | 10, _ => rfl
      | k + 11, h => exact absurd h (by omega)

/-! from 63.pure5.lean.txt -/
theorem pu_timeE {v w : SV} {t : Nat} {f : Nat → Int32} (a1 : ∀ d, w 0 d = if 0 ≤ d ∧ d < 24 then f d else v 0 d) (a2 : ∀ k, 1 ≤ k → k < 8 → w k = v k) (a3 : ∀ k, k < 11 → w 8 k = v 8 k) :
    (∀ d, tX2_passTime_2 v (nI t) w 0 d = if d < 24 then f d else v 0 d) ∧ (∀ k, 1 ≤ k → k < 8 → tX2_passTime_2 v (nI t) w k = v k) ∧ tX2_passTime_2 v (nI t) w 8 1 = v 8 1 + nI t ∧ (∀ k, k < 11 → k ≠ 1 → tX2_passTime_2 v (nI t) w 8 k = v 8 k) := by
  refine ⟨fun d => (a1 d).trans ?_, fun k k1 k2 => ?_, ?_, fun k k1 k2 => ?_⟩
  · by_cases k : d < 24
    · rw [if_pos k, if_pos ⟨Nat.zero_le _, k⟩]
    · rw [if_neg k, if_neg (fun q => k q.2)]
  · rw [← a2 k k1 k2]
    match k, k1, k2 with
    | 1, _, _ => rfl
    | 2, _, _ => rfl
    | 3, _, _ => rfl
    | 4, _, _ => rfl
    | 5, _, _ => rfl
    | 6, _, _ => rfl
    | 7, _, _ => rfl
    | k + 8, _, h => exact absurd h (by omega)
  · rw [← a3 1 (by omega)]
    rfl
  · rw [← a3 k k1]
    match k, k1, k2 with
    | 0, _, _ => rfl
    | 1, _, h => exact absurd rfl h
    | 2, _, _ => rfl
    | 3, _, _ => rfl
    | 4, _, _ => rfl
    | 5, _, _ => rfl
    | 6, _, _ => rfl
    | 7, _, _ => rfl
    | 8, _, _ => rfl
    | 9, _, _ => rfl
    | 10, _, _ => rfl
    | k + 11, h, _ => exact absurd h (by omega)
theorem pu_time {v : SV} {c t : Nat} {h : Nat → Nat} (hc : 1 ≤ c) (hc2 : c < 2 ^ 30) (ht : t < 2 ^ 30) (hh : ∀ d, h d < 2 ^ 30) (h21 : v 2 1 = nI c) (h0 : ∀ d, d < 24 → v 0 d = nI (h d)) :
    (∀ d, fX2_passTime v (nI t) 0 d = if d < 24 then nI (coolN c t (h d)) else v 0 d) ∧ (∀ k, 1 ≤ k → k < 8 → fX2_passTime v (nI t) k = v k) ∧ fX2_passTime v (nI t) 8 1 = v 8 1 + nI t ∧ (∀ k, k < 11 → k ≠ 1 → fX2_passTime v (nI t) 8 k = v 8 k) := by
  obtain ⟨a1, a2, a3⟩ := pu_timeI (v := v) (t := t) hc hc2 ht hh 24 0 v rfl h21 (fun d _ k => h0 d k)
  unfold fX2_passTime
  exact pu_timeE (f := fun d => nI (coolN c t (h d))) a1 a2 a3

/-! from 64.pure6.lean.txt -/
theorem RelS_time {v v' : SV} {r r' : Nat → Int32} {x : Int32} {f : Nat → Int32} (R : RelS v r)
    (a1 : ∀ d, v' 0 d = if d < 24 then f d else v 0 d) (a2 : ∀ k, 1 ≤ k → k < 8 → v' k = v k) (a3 : v' 8 1 = v 8 1 + x) (a4 : ∀ k, k < 11 → k ≠ 1 → v' 8 k = v 8 k)
    (b1 : ∀ d, r' d = if d < 24 then f d else if d = 82 then r 82 + x else r d) : RelS v' r' := by
  have hb : ∀ d, 24 ≤ d → d ≠ 82 → r' d = r d := fun d h1 h2 => by rw [b1, if_neg (by omega), if_neg h2]
  obtain ⟨c1, ⟨c2, c3⟩, c4, c5, c6, ⟨c7, c8, c9, c10, c11, c12, c13⟩, c14, c15, c16⟩ := R
  refine ⟨fun d hd => ?_, ⟨?_, ?_⟩, fun d hd => ?_, fun d hd => ?_, fun i hi => ?_, ⟨?_, ?_, ?_, ?_, ?_, ?_, ?_⟩, fun j hj hj2 => ⟨?_, ?_, ?_⟩, ?_, ?_⟩
  · rw [a1, b1, if_pos hd, if_pos hd]
  · rw [a4 8 (by omega) (by omega), hb 24 (by omega) (by omega)]; exact c2
  · rw [a4 9 (by omega) (by omega), hb 25 (by omega) (by omega)]; exact c3
  · rw [a2 6 (by omega) (by omega), hb (26 + d) (by omega) (by omega)]; exact c4 d hd
  · rw [a2 7 (by omega) (by omega), hb (50 + d) (by omega) (by omega)]; exact c5 d hd
  · rw [a2 2 (by omega) (by omega), hb (74 + i) (by omega) (by omega)]; exact c6 i hi
  · rw [a4 10 (by omega) (by omega), hb 81 (by omega) (by omega)]; exact c7
  · rw [a3, b1 82, if_neg (by omega), if_pos rfl, c8]
  · rw [a4 2 (by omega) (by omega), hb 83 (by omega) (by omega)]; exact c9
  · rw [a4 3 (by omega) (by omega), hb 84 (by omega) (by omega)]; exact c10
  · rw [a4 4 (by omega) (by omega), hb 85 (by omega) (by omega)]; exact c11
  · rw [a4 7 (by omega) (by omega), hb 86 (by omega) (by omega)]; exact c12
  · rw [a4 0 (by omega) (by omega), hb 87 (by omega) (by omega)]; exact c13
  · rw [hb 87 (by omega) (by omega)] at hj
    rw [a2 3 (by omega) (by omega), hb (88 + 3 * j) (by omega) (by omega)]; exact (c14 j hj hj2).1
  · rw [hb 87 (by omega) (by omega)] at hj
    rw [a2 4 (by omega) (by omega), hb (89 + 3 * j) (by omega) (by omega)]; exact (c14 j hj hj2).2.1
  · rw [hb 87 (by omega) (by omega)] at hj
    rw [a2 5 (by omega) (by omega), hb (90 + 3 * j) (by omega) (by omega)]; exact (c14 j hj hj2).2.2
  · rw [a4 5 (by omega) (by omega), c15]
    exact smF_congr 24 (fun d hd => (hb (26 + d) (by omega) (by omega)).symm)
  · rw [a4 6 (by omega) (by omega), c16]
    exact smF_congr 24 (fun d hd => (hb (50 + d) (by omega) (by omega)).symm)
/-! from 65.pure7.lean.txt -/
theorem al7 {P : Nat → Prop} (h1 : P 1) (h2 : P 2) (h3 : P 3) (h4 : P 4) (h5 : P 5) (h6 : P 6) (h7 : P 7) : ∀ k, 1 ≤ k → k < 8 → P k := fun k a b => match k, a, b with
  | 1, _, _ => h1
  | 2, _, _ => h2
  | 3, _, _ => h3
  | 4, _, _ => h4
  | 5, _, _ => h5
  | 6, _, _ => h6
  | 7, _, _ => h7
  | k + 8, _, h => absurd h (by omega)
theorem al8 {P : Nat → Prop} (h0 : P 0) (h1 : P 1) (h2 : P 2) (h3 : P 3) (h4 : P 4) (h5 : P 5) (h6 : P 6) (h7 : P 7) : ∀ k, k < 8 → P k := fun k b => match k, b with
  | 0, _ => h0
  | 1, _ => h1
  | 2, _ => h2
  | 3, _ => h3
  | 4, _ => h4
  | 5, _ => h5
  | 6, _ => h6
  | 7, _ => h7
  | k + 8, h => absurd h (by omega)
theorem al9 {P : Nat → Prop} (h0 : P 0) (h1 : P 1) (h2 : P 2) (h3 : P 3) (h4 : P 4) (h5 : P 5) (h6 : P 6) (h7 : P 7) (h8 : P 8) : ∀ k, k < 9 → P k := fun k b => match k, b with
  | 0, _ => h0
  | 1, _ => h1
  | 2, _ => h2
  | 3, _ => h3
  | 4, _ => h4
  | 5, _ => h5
  | 6, _ => h6
  | 7, _ => h7
  | 8, _ => h8
  | k + 9, h => absurd h (by omega)
theorem al11 {P : Nat → Prop} (h0 : P 0) (h1 : P 1) (h2 : P 2) (h3 : P 3) (h4 : P 4) (h5 : P 5) (h6 : P 6) (h7 : P 7) (h8 : P 8) (h9 : P 9) (h10 : P 10) : ∀ k, k < 11 → P k := fun k b => match k, b with
  | 0, _ => h0
  | 1, _ => h1
  | 2, _ => h2
  | 3, _ => h3
  | 4, _ => h4
  | 5, _ => h5
  | 6, _ => h6
  | 7, _ => h7
  | 8, _ => h8
  | 9, _ => h9
  | 10, _ => h10
  | k + 11, h => absurd h (by omega)
theorem lpF_0 {σ : Type} (P : Nat → σ → Prop) {b : Nat → σ → σ} (n : Nat) (s : σ) (hs : ∀ d t, d < n → P d t → P (d + 1) (b d t)) (h0 : P 0 s) : P n (lpF n 0 b s) := by
  have h := lpF_ind P (b := b) n 0 s (fun d t _ h2 h3 => hs d t (by omega) h3) h0
  rw [Nat.zero_add] at h
  exact h
theorem lpB_ind {σ : Type} {Q : σ → Prop} (P : Nat → σ → Prop) {g : σ → Bool × σ} (j : Nat) (h1 : ∀ i s, i < j → P i s → (g s).1 = true ∧ P (i + 1) (g s).2) (h2 : ∀ s, P j s → (g s).1 = false ∧ Q (g s).2) (N : Nat) : ∀ (i : Nat) (s : σ), i ≤ j → j < i + N → P i s → Q (lpB N g s) := by
  induction N with
  | zero => intro i s a b; omega
  | succ N ih =>
    intro i s a b p
    show Q (bif (g s).1 then lpB N g (g s).2 else (g s).2)
    by_cases k : i = j
    · subst k
      obtain ⟨c1, c2⟩ := h2 s p
      rw [c1]
      exact c2
    · obtain ⟨c1, c2⟩ := h1 i s (by omega) p
      rw [c1]
      exact ih (i + 1) _ (by omega) (by omega) c2
theorem smF_add (f g : Nat → Int32) (n : Nat) : smF n (fun d => f d + g d) = smF n f + smF n g := by
  induction n with
  | zero => rfl
  | succ n ih =>
    show smF n (fun d => f d + g d) + (f n + g n) = (smF n f + f n) + (smF n g + g n)
    rw [ih, Int32.add_assoc, Int32.add_assoc, ← Int32.add_assoc (smF n g), ← Int32.add_assoc (f n), Int32.add_comm (smF n g) (f n)]
theorem smF_lp (f : Nat → Int32) (n : Nat) : lpF n 0 (fun d s => s + f d) 0 = smF n f :=
  lpF_0 (fun i s => s = smF i f) n 0 (fun d t _ h => by show t + f d = smF d f + f d; rw [h]) rfl
def smN : Nat → (Nat → Nat) → Nat
  | 0, _ => 0
  | n + 1, f => smN n f + f n
theorem smF_N {f : Nat → Int32} {g : Nat → Nat} (n : Nat) (h : ∀ d, d < n → f d = nI (g d)) : smF n f = nI (smN n g) := by
  induction n with
  | zero => exact nI_0.symm
  | succ n ih =>
    show smF n f + f n = nI (smN n g + g n)
    rw [ih (fun d hd => h d (by omega)), h n (by omega), nI_add]
theorem smN_le {g : Nat → Nat} {b : Nat} (n : Nat) (h : ∀ d, d < n → g d ≤ b) : smN n g ≤ n * b := by
  induction n with
  | zero => exact Nat.zero_le _
  | succ n ih =>
    have h1 := ih (fun d hd => h d (by omega))
    have h2 := h n (by omega)
    show smN n g + g n ≤ _
    rw [Nat.succ_mul]
    omega
theorem smN_mono {f g : Nat → Nat} (n : Nat) (h : ∀ d, d < n → f d ≤ g d) : smN n f ≤ smN n g := by
  induction n with
  | zero => exact Nat.le_refl _
  | succ n ih =>
    have h1 := ih (fun d hd => h d (by omega))
    have h2 := h n (by omega)
    show smN n f + f n ≤ smN n g + g n
    omega
def bt (x : Int32) (i : Nat) : Bool := x.toBitVec.getLsbD i
theorem b_ext {x y : Int32} (h : ∀ i, i < 32 → bt x i = bt y i) : x = y := Int32.toBitVec_inj.mp (BitVec.eq_of_getLsbD_eq (fun i hi => h i hi))
theorem b_or (x y : Int32) (i : Nat) : bt (x ||| y) i = (bt x i || bt y i) := by unfold bt; rw [Int32.toBitVec_or, BitVec.getLsbD_or]
theorem b_and (x y : Int32) (i : Nat) : bt (x &&& y) i = (bt x i && bt y i) := by unfold bt; rw [Int32.toBitVec_and, BitVec.getLsbD_and]
theorem b_xor (x y : Int32) (i : Nat) : bt (x ^^^ y) i = (bt x i ^^ bt y i) := by unfold bt; rw [Int32.toBitVec_xor, BitVec.getLsbD_xor]
theorem b_nI (n : Nat) {i : Nat} (hi : i < 32) : bt (nI n) i = n.testBit i := by
  show (BitVec.ofNat 32 n).getLsbD i = _
  rw [BitVec.getLsbD_ofNat, decide_eq_true hi, Bool.true_and]
theorem b_m1 : ∀ i, i < 32 → bt (-1) i = true := by decide +kernel
theorem nx_or (a b : Nat) : nI a ||| nI b = nI (a ||| b) := b_ext (fun i hi => by rw [b_or, b_nI _ hi, b_nI _ hi, b_nI _ hi, Nat.testBit_or])
theorem s_l : ∀ n, n < 32 → ((nI n &&& 31).toBitVec.smod 32).toNat = n := by decide +kernel
theorem one_sh : ∀ n, n < 31 → (1 : Int32) <<< (nI n &&& 31) = nI (2 ^ n) := by decide +kernel
theorem bitOf_nI {X d : Nat} (hX : X < 2 ^ 31) (hd : d < 24) : fX5_bitOf (nI X) (nI d) = nI (X.testBit d).toNat := by
  unfold fX5_bitOf
  rw [if_neg (nI_pos (by omega)), if_neg (show ¬ (24 : Int32) ≤ nI d from nI_ge (b := 24) hd (by omega)), pk_shrN hX _ d (s_l d (by omega)), Nat.toNat_testBit]
  have h : X / 2 ^ d < 2 ^ 31 := Nat.lt_of_le_of_lt (Nat.div_le_self _ _) hX
  exact pk_andN (Nat.lt_of_lt_of_le h (by decide)) 1 rfl
theorem bit01 (x y : Int32) : fX5_bitOf x y = 0 ∨ fX5_bitOf x y = 1 := by
  unfold fX5_bitOf
  split
  · exact Or.inl rfl
  · split
    · exact Or.inl rfl
    · obtain ⟨j, hj, e⟩ := pk_andE (x >>> (y &&& 31)) (m := 1) 1 rfl
      rw [e]
      match j, hj with
      | 0, _ => exact Or.inl rfl
      | 1, _ => exact Or.inr rfl
      | j + 2, h => exact absurd h (by omega)
theorem nb_1 (b : Bool) : nI b.toNat = 1 ↔ b = true := by cases b <;> decide
def mkN : Nat → (Nat → Bool) → Nat
  | 0, _ => 0
  | n + 1, p => mkN n p ||| (if p n then 2 ^ n else 0)
theorem tb_mkN (p : Nat → Bool) (d n : Nat) : (mkN n p).testBit d = (decide (d < n) && p d) := by
  induction n with
  | zero => simp [mkN]
  | succ n ih =>
    show (mkN n p ||| (if p n then 2 ^ n else 0)).testBit d = _
    rw [Nat.testBit_or, ih]
    by_cases h : d = n
    · subst h
      by_cases k : p d = true
      · simp [k, Nat.testBit_two_pow]
      · simp [k]
    · have e : (if p n = true then 2 ^ n else 0).testBit d = false := by
        split
        · rw [Nat.testBit_two_pow]; simp; omega
        · simp
      rw [e, Bool.or_false, show decide (d < n + 1) = decide (d < n) from by simp; omega]
theorem mkN_lt (p : Nat → Bool) (n : Nat) : mkN n p < 2 ^ n := by
  apply Nat.lt_pow_two_of_testBit
  intro i hi
  rw [tb_mkN, decide_eq_false (by omega)]
  rfl
theorem mkN_31 (p : Nat → Bool) : mkN 24 p < 2 ^ 31 := Nat.lt_of_lt_of_le (mkN_lt p 24) (by decide)
theorem mkN_or (p q : Nat → Bool) (n : Nat) : mkN n p ||| mkN n q = mkN n (fun d => p d || q d) := by
  apply Nat.eq_of_testBit_eq
  intro i
  rw [Nat.testBit_or, tb_mkN, tb_mkN, tb_mkN, Bool.and_or_distrib_left]
theorem mkN_id {X : Nat} (h : X < 2 ^ 24) : mkN 24 (fun d => X.testBit d) = X := by
  apply Nat.eq_of_testBit_eq
  intro i
  rw [tb_mkN]
  by_cases k : i < 24
  · rw [decide_eq_true k]
    rfl
  · rw [decide_eq_false k, Nat.testBit_lt_two_pow (Nat.lt_of_lt_of_le h (Nat.pow_le_pow_right (by omega) (by omega)))]
    rfl
theorem mkN_F (n : Nat) : mkN n (fun _ => false) = 0 := by
  apply Nat.eq_of_testBit_eq
  intro i
  rw [tb_mkN, Bool.and_false, Nat.zero_testBit]
theorem mkN_step (p : Nat → Bool) (d : Nat) (hd : d < 31) : nI (mkN (d + 1) p) = nI (mkN d p) ||| (if p d then (1 : Int32) <<< (nI d &&& 31) else 0) := by
  show nI (mkN d p ||| (if p d then 2 ^ d else 0)) = _
  rw [← nx_or]
  congr 1
  split
  · exact (one_sh d hd).symm
  · exact nI_0
theorem bit_mkN (p : Nat → Bool) {d : Nat} (hd : d < 24) : fX5_bitOf (nI (mkN 24 p)) (nI d) = nI (p d).toNat := by
  rw [bitOf_nI (mkN_31 p) hd, tb_mkN, decide_eq_true hd, Bool.true_and]
theorem andn_mkN {X : Nat} (hX : X < 2 ^ 24) (D : Nat → Bool) : nI X &&& (nI (mkN 24 D) ^^^ (-1)) = nI (mkN 24 (fun d => X.testBit d && !D d)) := b_ext (fun i hi => by
  rw [b_and, b_xor, b_m1 i hi, b_nI _ hi, b_nI _ hi, b_nI _ hi, tb_mkN, tb_mkN]
  by_cases k : i < 24
  · rw [decide_eq_true k]
    cases X.testBit i <;> cases D i <;> rfl
  · rw [decide_eq_false k, Nat.testBit_lt_two_pow (Nat.lt_of_lt_of_le hX (Nat.pow_le_pow_right (by omega) (by omega)))]
    rfl)
def mxN : Nat → (Nat → Bool) → (Nat → Nat) → Nat
  | 0, _, _ => 0
  | n + 1, m, f => if m n then max (mxN n m f) (f n) else mxN n m f
theorem mxN_t {m : Nat → Bool} {f : Nat → Nat} {n : Nat} (h : m n = true) : mxN (n + 1) m f = max (mxN n m f) (f n) := if_pos h
theorem mxN_f {m : Nat → Bool} {f : Nat → Nat} {n : Nat} (h : ¬ m n = true) : mxN (n + 1) m f = mxN n m f := if_neg h
theorem mxN_le {m : Nat → Bool} {f : Nat → Nat} {b : Nat} (n : Nat) (h : ∀ d, d < n → m d = true → f d ≤ b) : mxN n m f ≤ b := by
  induction n with
  | zero => exact Nat.zero_le _
  | succ n ih =>
    have h1 := ih (fun d hd => h d (by omega))
    by_cases k : m n = true
    · rw [mxN_t k]
      exact Nat.max_le.mpr ⟨h1, h n (by omega) k⟩
    · rw [mxN_f k]
      exact h1
theorem mxN_ge {m : Nat → Bool} {f : Nat → Nat} {d : Nat} (n : Nat) (hd : d < n) (hm : m d = true) : f d ≤ mxN n m f := by
  induction n with
  | zero => omega
  | succ n ih =>
    by_cases e : d = n
    · subst e
      rw [mxN_t hm]
      exact Nat.le_max_right _ _
    · have h1 := ih (by omega)
      by_cases k : m n = true
      · rw [mxN_t k]
        exact Nat.le_trans h1 (Nat.le_max_left _ _)
      · rw [mxN_f k]
        exact h1
theorem mxN_congr {m m' : Nat → Bool} {f f' : Nat → Nat} (n : Nat) (h : ∀ d, d < n → m d = m' d ∧ f d = f' d) : mxN n m f = mxN n m' f' := by
  induction n with
  | zero => rfl
  | succ n ih =>
    have h1 := ih (fun d hd => h d (by omega))
    obtain ⟨h2, h3⟩ := h n (by omega)
    show (if m n then max (mxN n m f) (f n) else mxN n m f) = (if m' n then max (mxN n m' f') (f' n) else mxN n m' f')
    rw [h1, h2, h3]
/-- Java's two ways to say the greater one -/
theorem imx {a b : Nat} (ha : a < 2 ^ 31) (hb : b < 2 ^ 31) : (if nI a < nI b then nI b else nI a) = nI (max a b) := by
  by_cases h : a < b
  · rw [if_pos (nI_lt h hb), Nat.max_eq_right (by omega)]
  · rw [if_neg (nI_nlt (by omega) ha), Nat.max_eq_left (by omega)]
theorem imx2 {a b : Nat} (ha : a < 2 ^ 31) (hb : b < 2 ^ 31) : (if nI b ≤ nI a then nI a else nI b) = nI (max a b) := by
  by_cases h : a < b
  · rw [if_neg (nI_ge h hb), Nat.max_eq_right (by omega)]
  · rw [if_pos (nI_le (by omega) ha), Nat.max_eq_left (by omega)]

