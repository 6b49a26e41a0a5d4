/-! small facts for the law's calls -/
theorem iwn {n a b : Nat} (h1 : a ≤ n) (h2 : n ≤ b) (hb : b < 2 ^ 31) : ¬ fX5_isWithin (nI n) (nI a) (nI b) = 0 := by
  unfold fX5_isWithin
  rw [if_neg (nI_nlt h1 (by omega)), if_neg (nI_nlt h2 hb)]
  decide
theorem isDot_n {d : Nat} (h : d < 24) : ¬ fX5_isDot (nI d) = 0 := iwn (a := 0) (b := 23) (by omega) (by omega) (by omega)
theorem iw_11 {d : Nat} (h : d < 7) : ¬ fX5_isWithin (11 + nI d) 0 18 = 0 := by
  rw [show (11 : Int32) + nI d = nI (11 + d) from nI_add 11 d]
  exact iwn (a := 0) (b := 18) (by omega) (by omega) (by omega)
theorem nI_nn {d : Nat} (h : d < 2 ^ 31) : (0 : Int32) ≤ nI d := by rw [← nI_0]; exact nI_le (Nat.zero_le _) h
theorem kpd {d : Nat} (h : d < 12) : ¬ fX5_isWithin (nI d) 0 11 = 0 := iwn (a := 0) (b := 11) (by omega) (by omega) (by omega)
theorem kp15 {x : Int32} (h : le_n x 12) (k : ¬ x = 12) : ¬ fX5_isWithin x 0 11 = 0 := by
  have h1 := lt_n h k
  rw [lq h]
  exact kpd h1
theorem sgn {c : Nat} {x : Int32} (hc : c < 100) (h : le_n x 24) (k : ¬ x ≤ 0) : (0 : Int32) ≤ nI c + (x - 1) := by
  have h1 := lq h
  have h2 := h.2
  generalize x.toNatClampNeg = n at h1 h2
  subst h1
  have h0 : 1 ≤ n := Nat.pos_of_ne_zero (fun z => k (by rw [z]; decide))
  rw [show nI n - 1 = nI (n - 1) from nE_sub (a := n) (b := 1) rfl rfl h0, nI_add]
  exact nI_nn (by omega)
/-- low: a number from 0 -/
theorem and_max (x : Int32) : ∃ m, m < 2 ^ 31 ∧ x &&& 2147483647 = nI m := by
  obtain ⟨j, hj, e⟩ := pk_andE x (m := 2147483647) 31 rfl
  exact ⟨j, hj, e⟩
theorem low_n (x : Int32) {n : Nat} (h1 : 1 ≤ n) (h2 : n < 2 ^ 31) : ∃ r, r < n ∧ fL_low x (nI n) = nI r := by
  obtain ⟨m, hm, e⟩ := and_max x
  have hd : m / n * n ≤ m := Nat.div_mul_le_self m n
  refine ⟨m % n, Nat.mod_lt _ (by omega), ?_⟩
  unfold fL_low
  rw [e, pk_div (by omega) (by omega) (by omega), pk_mul, pk_sub hd]
  congr 1
  have := Nat.div_add_mod m n
  rw [Nat.mul_comm] at this
  omega
theorem low7 (x : Int32) : (fL_low x 7).toNatClampNeg < 7 := by
  obtain ⟨r, h1, h2⟩ := low_n x (n := 7) (by omega) (by omega)
  rw [show fL_low x 7 = nI r from h2, nI_clamp (by omega)]
  exact h1
theorem low_7 (x : Int32) : le_n (fL_low x 7) 6 := by
  obtain ⟨r, h1, h2⟩ := low_n x (n := 7) (by omega) (by omega)
  rw [show fL_low x 7 = nI r from h2]
  exact le_n_nI (by omega) (by omega)
theorem iw06 {d : Nat} (h : d < 7) : ¬ fX5_isWithin (nI d) 0 6 = 0 := iwn (a := 0) (b := 6) (by omega) (by omega) (by omega)
theorem set_in {k a b n : Nat} {x w i : Int32} (hi : i = nI k) (ha : fX5_at 7 st1 (nI k) = nI a) (hb : fX5_at 7 st2 (nI k) = nI b) (h1 : 1 ≤ n) (hab : a + n = b + 1) (hb2 : b < 1000) (e : w = nI a + fL_low x (nI n)) : ¬ fX5_isWithin w (fX5_at 7 st1 i) (fX5_at 7 st2 i) = 0 := by
  obtain ⟨r, r1, r2⟩ := low_n x (n := n) h1 (by omega)
  rw [hi, ha, hb, e, r2, nI_add]
  exact iwn (by omega) (by omega) (by omega)
theorem set_0 {x w i : Int32} (hi : i = 0) (e : w = 50 + fL_low x 251) : ¬ fX5_isWithin w (fX5_at 7 st1 i) (fX5_at 7 st2 i) = 0 := set_in (k := 0) (a := 50) (b := 300) (n := 251) hi (by decide +kernel) (by decide +kernel) (by omega) (by omega) (by omega) e
theorem set_1 {x w i : Int32} (hi : i = 1) (e : w = 5 + fL_low x 196) : ¬ fX5_isWithin w (fX5_at 7 st1 i) (fX5_at 7 st2 i) = 0 := set_in (k := 1) (a := 5) (b := 200) (n := 196) hi (by decide +kernel) (by decide +kernel) (by omega) (by omega) (by omega) e
theorem set_2 {x w i : Int32} (hi : i = 2) (e : w = 330 + fL_low x 571) : ¬ fX5_isWithin w (fX5_at 7 st1 i) (fX5_at 7 st2 i) = 0 := set_in (k := 2) (a := 330) (b := 900) (n := 571) hi (by decide +kernel) (by decide +kernel) (by omega) (by omega) (by omega) e
theorem set_3 {x w i : Int32} (hi : i = 3) (e : w = 1 + fL_low x 20) : ¬ fX5_isWithin w (fX5_at 7 st1 i) (fX5_at 7 st2 i) = 0 := set_in (k := 3) (a := 1) (b := 20) (n := 20) hi (by decide +kernel) (by decide +kernel) (by omega) (by omega) (by omega) e
theorem set_4 {x w i : Int32} (hi : i = 4) (e : w = 1 + fL_low x 200) : ¬ fX5_isWithin w (fX5_at 7 st1 i) (fX5_at 7 st2 i) = 0 := set_in (k := 4) (a := 1) (b := 200) (n := 200) hi (by decide +kernel) (by decide +kernel) (by omega) (by omega) (by omega) e
theorem set_5 {x w i : Int32} (hi : i = 5) (e : w = fL_low x 2) : ¬ fX5_isWithin w (fX5_at 7 st1 i) (fX5_at 7 st2 i) = 0 := set_in (k := 5) (a := 0) (b := 1) (n := 2) (x := x) hi (by decide +kernel) (by decide +kernel) (by omega) (by omega) (by omega) (by rw [e, nI_0, Int32.zero_add]; rfl)
theorem set_6 {x w : Int32} {k : Nat} (hk : k < 7) (k0 : ¬ nI k = 0) (k1 : ¬ nI k = 1) (k2 : ¬ nI k = 2) (k3 : ¬ nI k = 3) (k4 : ¬ nI k = 4) (k5 : ¬ nI k = 5) (e : w = fL_low x 51) : ¬ fX5_isWithin w (fX5_at 7 st1 (nI k)) (fX5_at 7 st2 (nI k)) = 0 := by
  have h6 : k = 6 := by
    match k, hk with
    | 0, _ => exact absurd rfl k0
    | 1, _ => exact absurd rfl k1
    | 2, _ => exact absurd rfl k2
    | 3, _ => exact absurd rfl k3
    | 4, _ => exact absurd rfl k4
    | 5, _ => exact absurd rfl k5
    | 6, _ => rfl
    | k + 7, h => exact absurd h (by omega)
  subst h6
  exact set_in (k := 6) (a := 0) (b := 50) (n := 51) (x := x) rfl (by decide +kernel) (by decide +kernel) (by omega) (by omega) (by omega) (by rw [e, nI_0, Int32.zero_add]; rfl)
theorem dots_n (x : Int32) : ∃ X, X < 2 ^ 24 ∧ fL_dots x = nI X := by
  unfold fL_dots
  split
  · exact pk_andE _ (m := 16777215) 24 rfl
  · split
    · exact pk_andE _ (m := 16777215) 24 rfl
    · obtain ⟨j, h1, h2⟩ := pk_andE (x >>> (5 &&& 31)) (m := 255) 8 rfl
      exact ⟨j, by omega, h2⟩
theorem dots_line (x : Int32) : ¬ fX5_isLine (fL_dots x) = 0 := by
  obtain ⟨X, h1, h2⟩ := dots_n x
  rw [h2]
  exact iwn (a := 0) (b := 16777215) (by omega) (by omega) (by omega)
theorem pap_ok {x w : Int32} (e : w = fL_low x 3) : ¬ fX5_isWithin w 0 2 = 0 := by
  obtain ⟨r, r1, r2⟩ := low_n x (n := 3) (by omega) (by omega)
  rw [e, show fL_low x 3 = nI r from r2]
  exact iwn (a := 0) (b := 2) (by omega) (by omega) (by omega)
theorem times_ok (x : Int32) : ¬ fX5_isWithin (1 + fL_low x 5) 1 20 = 0 := by
  obtain ⟨r, r1, r2⟩ := low_n x (n := 5) (by omega) (by omega)
  rw [show fL_low x 5 = nI r from r2, show (1 : Int32) + nI r = nI (1 + r) from nI_add 1 r]
  exact iwn (a := 1) (b := 20) (by omega) (by omega) (by omega)
theorem LS_7 {v : SV} {r0 r1 r2 r3 : Nat → Int32} {x w : Int32} (h : Lgs v) (e : w = fL_low x 3) : Lgs (mkL r0 r1 r2 r3 (upd (v 4) 7 w)) := by
  obtain ⟨r, k1, k2⟩ := low_n x (n := 3) (by omega) (by omega)
  obtain ⟨a0, a1, a2, a3, a4, a5, a6, -⟩ := h
  exact ⟨a0, a1, a2, a3, a4, a5, a6, r, by omega, e.trans k2⟩
def JI (w : SV × HV) : Prop := Lgs w.1 ∧ le_n (w.2 9 2 0) 6
def wdA (a b : Nat → Nat) (N : Nat) : Nat → Prop := fun z => hdA a b z ∨ N ≤ z
def wdN (N : Nat) : Nat → Prop := fun z => N ≤ z
theorem copy_v (n m : Nat) (f g : Nat → Int32) (hn : n < 2 ^ 31) : ∀ i, i < n → fL_copy n f m g i = f i := by
  unfold fL_copy tL_copy_2
  have h := lpF_0 (fun d (s : Nat → Int32) => ∀ i, i < d → s i = f i) (b := bL_copy_2 n f m g) n g ?_ (fun i hi => absurd hi (Nat.not_lt_zero _))
  · exact h
  · intro d s hd hs i hi
    unfold bL_copy_2
    rw [nI_clamp (by omega)]
    by_cases q : i = d
    · subst q; exact pk_us
    · rw [pk_un q]; exact hs i (by omega)
theorem LS_copy {v : SV} {r0 r1 r2 r3 g : Nat → Int32} (h : Lgs v) : Lgs (mkL r0 r1 r2 r3 (fL_copy 21 (v 4) 21 g)) := LSn_of h (fun j hj => copy_v 21 21 _ _ (by omega) j (by omega))
theorem LS_way {v u : SV} {r0 r1 r2 r3 : Nat → Int32} {w : Int32} (h : Lgs v) (g : Lgs u) (e : w = 1 - v 4 5) : Lgs (mkL r0 r1 r2 r3 (upd (u 4) 5 w)) := by
  obtain ⟨-, -, -, -, -, ⟨c, c1, c2⟩, -⟩ := h
  obtain ⟨a0, a1, a2, a3, a4, -, a6, a7⟩ := g
  refine ⟨a0, a1, a2, a3, a4, ⟨1 - c, by omega, ?_⟩, a6, a7⟩
  show w = _
  rw [e, c2]
  exact nE_sub (a := 1) (b := c) rfl rfl c1
