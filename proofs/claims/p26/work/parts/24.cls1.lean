abbrev HV : Type := Nat → SV
def mkH (v0 v1 v2 v3 v4 v5 v6 v7 v8 : SV) (cd rd : Nat → Int32) (s0 s1 s2 : Int32) : HV := fun j => match j with
  | 0 => v0
  | 1 => v1
  | 2 => v2
  | 3 => v3
  | 4 => v4
  | 5 => v5
  | 6 => v6
  | 7 => v7
  | 8 => v8
  | _ => fun i => match i with
    | 0 => cd
    | 1 => rd
    | _ => fun k => match k with
      | 0 => s0
      | 1 => s1
      | _ => s2
/-- the addresses of now, the snapshot, the trial (0, 1, 2), of a saved one (k) -/
def sA (a : Nat → Nat) (j : Nat) : Nat → Nat := fun i => a (5 + 11 * j + i)
def sB (b : Nat → Nat) (k : Nat) : Nat → Nat := fun i => b (11 * k + i)
/-- a HeadDots: its own cells (row 9 of the value: the codes; the reader; savedCount, hasSnapshot, the buffer's length), now, snapshot, trial (0 to 2), the saved ones (3 to 8) -/
def hdO (G : GT) (a b : Nat → Nat) (x : HV) : va_W :=
  [(a 0, .inr (5, [.ref (a 5), .ref (a 16), .ref (a 27), .ref (a 1), .ref (a 2), .ref (a 4), .int (x 9 2 0), .int (x 9 2 1)])),
   (a 1, .inl (gR G, 6, .inr (.inr (.inr (.inr (fun k => some (b (11 * k)))))))),
   (a 2, .inr (0, [.ref (a 3), .int (x 9 2 2)])), (a 3, .inl (gI G, 60, .inl (x 9 0))),
   (a 4, .inr (1, [.int (x 9 1 0), .int (x 9 1 1), .ref (gA G (10 + (x 9 1 2).toNatClampNeg)), .int (x 9 1 3), .int (x 9 1 4), .int (x 9 1 5), .int (x 9 1 6), .int (x 9 1 7), .int (x 9 1 8), .int (x 9 1 9)]))]
def hdT (G : GT) (b : Nat → Nat) (x : HV) : va_W := stW G (sB b 0) (x 3) ++ (stW G (sB b 1) (x 4) ++ (stW G (sB b 2) (x 5) ++ (stW G (sB b 3) (x 6) ++ (stW G (sB b 4) (x 7) ++ stW G (sB b 5) (x 8)))))
def hdW (G : GT) (a b : Nat → Nat) (x : HV) : va_W := hdO G a b x ++ (stW G (sA a 0) (x 0) ++ (stW G (sA a 1) (x 1) ++ (stW G (sA a 2) (x 2) ++ hdT G b x)))
def hdA (a b : Nat → Nat) : Nat → Prop := fun z => (∃ i, i < 38 ∧ z = a i) ∨ ∃ i, i < 66 ∧ z = b i
def hdD (G : GT) (a b : Nat → Nat) : Prop := ((∀ i, i < 38 → gL G ≤ a i) ∧ ∀ i j, i < 38 → j < 38 → a i = a j → i = j) ∧ ((∀ i, i < 66 → gL G ≤ b i) ∧ ∀ i j, i < 66 → j < 66 → b i = b j → i = j) ∧ ∀ i j, i < 38 → j < 66 → ¬ a i = b j
theorem hdD_low {G : GT} {a b : Nat → Nat} (h : hdD G a b) : ∀ z, hdA a b z → gL G ≤ z := fun z hz => hz.elim (fun ⟨i, hi, e⟩ => by rw [e]; exact h.1.1 i hi) (fun ⟨i, hi, e⟩ => by rw [e]; exact h.2.1.1 i hi)
theorem PW_app {G : GT} {ws vs : va_W} {H : Heap} : PW G (ws ++ vs) H ↔ PW G ws H ∧ PW G vs H := by
  refine ⟨fun h => ⟨fun k q hk => h k q (by rw [List.getElem?_append_left (List.getElem?_eq_some_iff.mp hk).1]; exact hk), fun k q hk => h (ws.length + k) q (by rw [List.getElem?_append_right (Nat.le_add_right _ _), Nat.add_sub_cancel_left]; exact hk)⟩, fun h k q hk => ?_⟩
  by_cases z : k < ws.length
  · rw [List.getElem?_append_left z] at hk; exact h.1 k q hk
  · rw [List.getElem?_append_right (Nat.not_lt.mp z)] at hk; exact h.2 _ q hk
theorem va_D_app {A : Nat → Prop} {ws vs : va_W} (h1 : va_D A ws) (h2 : va_D A vs) (h3 : ∀ (i j : Nat) (p q : Nat × va_E), ws[i]? = some p → vs[j]? = some q → ¬ p.1 = q.1) : va_D A (ws ++ vs) := by
  have cs : ∀ (i : Nat) (p : Nat × va_E), (ws ++ vs)[i]? = some p → (i < ws.length ∧ ws[i]? = some p) ∨ (¬ i < ws.length ∧ vs[i - ws.length]? = some p) := by
    intro i p h
    by_cases z : i < ws.length
    · rw [List.getElem?_append_left z] at h; exact Or.inl ⟨z, h⟩
    · rw [List.getElem?_append_right (Nat.not_lt.mp z)] at h; exact Or.inr ⟨z, h⟩
  refine ⟨fun i j p q hp hq e => ?_, fun k q hk => ?_⟩
  · rcases cs i p hp with ⟨z1, g1⟩ | ⟨z1, g1⟩ <;> rcases cs j q hq with ⟨z2, g2⟩ | ⟨z2, g2⟩
    · exact h1.1 i j p q g1 g2 e
    · exact absurd e (h3 _ _ _ _ g1 g2)
    · exact absurd e.symm (h3 _ _ _ _ g2 g1)
    · have := h2.1 _ _ p q g1 g2 e
      omega
  · rcases cs k q hk with ⟨-, g⟩ | ⟨-, g⟩
    · exact h1.2 k q g
    · exact h2.2 _ q g
theorem hdO_at {G : GT} {a b : Nat → Nat} {x : HV} {k : Nat} {p : Nat × va_E} (h : (hdO G a b x)[k]? = some p) : k < 5 ∧ p.1 = a k := fst_of (n := 5) (q := a) rfl h
theorem stW_at {G : GT} {q : Nat → Nat} {v : SV} {k : Nat} {p : Nat × va_E} (h : (stW G q v)[k]? = some p) : k < 11 ∧ p.1 = q k := fst_of (n := 11) (q := q) rfl h
theorem at_of {ws : va_W} {vs : va_W} {P : Nat → Prop} (h1 : ∀ (k : Nat) (p : Nat × va_E), ws[k]? = some p → P p.1) (h2 : ∀ (k : Nat) (p : Nat × va_E), vs[k]? = some p → P p.1) : ∀ (k : Nat) (p : Nat × va_E), (ws ++ vs)[k]? = some p → P p.1 := by
  intro k p h
  by_cases z : k < ws.length
  · rw [List.getElem?_append_left z] at h; exact h1 k p h
  · rw [List.getElem?_append_right (Nat.not_lt.mp z)] at h; exact h2 _ p h
theorem hdT_at {G : GT} {b : Nat → Nat} {x : HV} (m : Nat) (hm : m = 0) : ∀ (k : Nat) (p : Nat × va_E), (hdT G b x)[k]? = some p → ∃ i, i < 66 ∧ p.1 = b i := by
  have s : ∀ j v, j < 6 → ∀ (k : Nat) (p : Nat × va_E), (stW G (sB b j) v)[k]? = some p → ∃ i, i < 66 ∧ p.1 = b i := fun j v hj k p h => ⟨11 * j + k, by have := (stW_at h).1; omega, (stW_at h).2⟩
  exact at_of (P := fun z => ∃ i, i < 66 ∧ z = b i) (s 0 _ (by omega)) (at_of (P := fun z => ∃ i, i < 66 ∧ z = b i) (s 1 _ (by omega)) (at_of (P := fun z => ∃ i, i < 66 ∧ z = b i) (s 2 _ (by omega)) (at_of (P := fun z => ∃ i, i < 66 ∧ z = b i) (s 3 _ (by omega)) (at_of (P := fun z => ∃ i, i < 66 ∧ z = b i) (s 4 _ (by omega)) (s 5 _ (by omega))))))
theorem va_D_rg {A : Nat → Prop} {q : Nat → Nat} {lo n : Nat} {ws : va_W} (hw : ws.map Prod.fst = (List.range n).map (fun i => q (lo + i))) (hA : ∀ i, lo ≤ i → i < lo + n → A (q i)) (hi : ∀ i j, lo ≤ i → i < lo + n → lo ≤ j → j < lo + n → q i = q j → i = j) : va_D A ws :=
  va_D_of (n := n) (q := fun i => q (lo + i)) hw (fun i h => hA _ (by omega) (by omega)) (fun i j h1 h2 e => by have := hi (lo + i) (lo + j) (by omega) (by omega) (by omega) (by omega) e; omega)
theorem hdD_D {G : GT} {a b : Nat → Nat} (h : hdD G a b) (x : HV) : va_D (hdA a b) (hdW G a b x) := by
  obtain ⟨⟨a1, a2⟩, ⟨b1, b2⟩, ab⟩ := h
  have sa : ∀ j v, j < 3 → va_D (hdA a b) (stW G (sA a j) v) := fun j v hj => va_D_of (n := 11) (q := sA a j) rfl (fun i hi => Or.inl ⟨5 + 11 * j + i, by omega, rfl⟩) (fun i k hi hk e => by have := a2 (5 + 11 * j + i) (5 + 11 * j + k) (by omega) (by omega) e; omega)
  have sb : ∀ j v, j < 6 → va_D (hdA a b) (stW G (sB b j) v) := fun j v hj => va_D_of (n := 11) (q := sB b j) rfl (fun i hi => Or.inr ⟨11 * j + i, by omega, rfl⟩) (fun i k hi hk e => by have := b2 (11 * j + i) (11 * j + k) (by omega) (by omega) e; omega)
  have o0 : va_D (hdA a b) (hdO G a b x) := va_D_of (n := 5) (q := a) rfl (fun i hi => Or.inl ⟨i, by omega, rfl⟩) (fun i k hi hk e => a2 i k (by omega) (by omega) e)
  have Ta : ∀ j v, ∀ (k : Nat) (p : Nat × va_E), (stW G (sA a j) v)[k]? = some p → ∃ i, 5 + 11 * j ≤ i ∧ i < 16 + 11 * j ∧ p.1 = a i := fun j v k p hk => ⟨5 + 11 * j + k, by omega, by have := (stW_at hk).1; omega, (stW_at hk).2⟩
  have Tb : ∀ j v, ∀ (k : Nat) (p : Nat × va_E), (stW G (sB b j) v)[k]? = some p → ∃ i, 11 * j ≤ i ∧ i < 11 * j + 11 ∧ p.1 = b i := fun j v k p hk => ⟨11 * j + k, by omega, by have := (stW_at hk).1; omega, (stW_at hk).2⟩
  have ups : ∀ {ws vs : va_W} {n : Nat}, (∀ (k : Nat) (p : Nat × va_E), ws[k]? = some p → ∃ i, n ≤ i ∧ i < 66 ∧ p.1 = b i) → (∀ (k : Nat) (p : Nat × va_E), vs[k]? = some p → ∃ i, n ≤ i ∧ i < 66 ∧ p.1 = b i) → (∀ (k : Nat) (p : Nat × va_E), (ws ++ vs)[k]? = some p → ∃ i, n ≤ i ∧ i < 66 ∧ p.1 = b i) := fun {ws vs n} h1 h2 => at_of (P := fun z => ∃ i, n ≤ i ∧ i < 66 ∧ z = b i) h1 h2
  have apb : ∀ {j : Nat} {v : SV} {vs : va_W}, j < 6 → va_D (hdA a b) vs → (∀ (k : Nat) (p : Nat × va_E), vs[k]? = some p → ∃ i, 11 * j + 11 ≤ i ∧ i < 66 ∧ p.1 = b i) → va_D (hdA a b) (stW G (sB b j) v ++ vs) := fun {j v vs} hj hv hs => va_D_app (sb j v hj) hv (fun i k p q hp hq e => by
    obtain ⟨i1, u1, u2, u3⟩ := Tb j v i p hp
    obtain ⟨i2, w1, w2, w3⟩ := hs k q hq
    have := b2 i1 i2 (by omega) (by omega) (by rw [← u3, ← w3]; exact e)
    omega)
  have one : ∀ {j n : Nat} {v : SV}, j < 6 → n ≤ 11 * j → ∀ (k : Nat) (p : Nat × va_E), (stW G (sB b j) v)[k]? = some p → ∃ i, n ≤ i ∧ i < 66 ∧ p.1 = b i := fun {j n v} hj hn k p hk => by
    obtain ⟨i1, u1, u2, u3⟩ := Tb j v k p hk
    exact ⟨i1, by omega, by omega, u3⟩
  have t5 := sb 5 (x 8) (by omega)
  have t4 := apb (j := 4) (v := x 7) (by omega) t5 (one (by omega) (by omega))
  have t3 := apb (j := 3) (v := x 6) (by omega) t4 (ups (one (by omega) (by omega)) (one (by omega) (by omega)))
  have t2 := apb (j := 2) (v := x 5) (by omega) t3 (ups (one (by omega) (by omega)) (ups (one (by omega) (by omega)) (one (by omega) (by omega))))
  have t1 := apb (j := 1) (v := x 4) (by omega) t2 (ups (one (by omega) (by omega)) (ups (one (by omega) (by omega)) (ups (one (by omega) (by omega)) (one (by omega) (by omega)))))
  have t0 : va_D (hdA a b) (hdT G b x) := apb (j := 0) (v := x 3) (by omega) t1 (ups (one (by omega) (by omega)) (ups (one (by omega) (by omega)) (ups (one (by omega) (by omega)) (ups (one (by omega) (by omega)) (one (by omega) (by omega))))))
  have kb := hdT_at (G := G) (b := b) (x := x) 0 rfl
  have apa : ∀ {j : Nat} {v : SV} {vs : va_W}, j < 3 → va_D (hdA a b) vs → (∀ (k : Nat) (p : Nat × va_E), vs[k]? = some p → (∃ i, 16 + 11 * j ≤ i ∧ i < 38 ∧ p.1 = a i) ∨ ∃ i, i < 66 ∧ p.1 = b i) → va_D (hdA a b) (stW G (sA a j) v ++ vs) := fun {j v vs} hj hv hs => va_D_app (sa j v hj) hv (fun i k p q hp hq e => by
    obtain ⟨i1, u1, u2, u3⟩ := Ta j v i p hp
    rcases hs k q hq with ⟨i2, w1, w2, w3⟩ | ⟨i2, w1, w3⟩
    · have := a2 i1 i2 (by omega) (by omega) (by rw [← u3, ← w3]; exact e)
      omega
    · exact ab i1 i2 (by omega) w1 (by rw [← u3, ← w3]; exact e))
  have onea : ∀ {j n : Nat} {v : SV}, j < 3 → n ≤ 5 + 11 * j → ∀ (k : Nat) (p : Nat × va_E), (stW G (sA a j) v)[k]? = some p → (∃ i, n ≤ i ∧ i < 38 ∧ p.1 = a i) ∨ ∃ i, i < 66 ∧ p.1 = b i := fun {j n v} hj hn k p hk => by
    obtain ⟨i1, u1, u2, u3⟩ := Ta j v k p hk
    exact Or.inl ⟨i1, by omega, by omega, u3⟩
  have kb2 : ∀ n, ∀ (k : Nat) (p : Nat × va_E), (hdT G b x)[k]? = some p → (∃ i, n ≤ i ∧ i < 38 ∧ p.1 = a i) ∨ ∃ i, i < 66 ∧ p.1 = b i := fun n k p hk => Or.inr (kb k p hk)
  have upa : ∀ {ws vs : va_W} {n : Nat}, (∀ (k : Nat) (p : Nat × va_E), ws[k]? = some p → (∃ i, n ≤ i ∧ i < 38 ∧ p.1 = a i) ∨ ∃ i, i < 66 ∧ p.1 = b i) → (∀ (k : Nat) (p : Nat × va_E), vs[k]? = some p → (∃ i, n ≤ i ∧ i < 38 ∧ p.1 = a i) ∨ ∃ i, i < 66 ∧ p.1 = b i) → (∀ (k : Nat) (p : Nat × va_E), (ws ++ vs)[k]? = some p → (∃ i, n ≤ i ∧ i < 38 ∧ p.1 = a i) ∨ ∃ i, i < 66 ∧ p.1 = b i) := fun {ws vs n} h1 h2 => at_of (P := fun z => (∃ i, n ≤ i ∧ i < 38 ∧ z = a i) ∨ ∃ i, i < 66 ∧ z = b i) h1 h2
  have q2 := apa (j := 2) (v := x 2) (by omega) t0 (kb2 38)
  have q1 := apa (j := 1) (v := x 1) (by omega) q2 (upa (onea (by omega) (by omega)) (kb2 27))
  have q0 := apa (j := 0) (v := x 0) (by omega) q1 (upa (onea (by omega) (by omega)) (upa (onea (by omega) (by omega)) (kb2 16)))
  refine va_D_app o0 q0 (fun i k p q hp hq e => ?_)
  obtain ⟨u1, u2⟩ := hdO_at hp
  rcases (upa (n := 5) (onea (by omega) (by omega)) (upa (onea (by omega) (by omega)) (upa (onea (by omega) (by omega)) (kb2 5)))) k q hq with ⟨i2, w1, w2, w3⟩ | ⟨i2, w1, w3⟩
  · have := a2 i i2 (by omega) (by omega) (by rw [← u2, ← w3]; exact e)
    omega
  · exact ab i i2 (by omega) w1 (by rw [← u2, ← w3]; exact e)
/-- what the list says, piece by piece -/
theorem hd_iff {G : GT} {a b : Nat → Nat} {x : HV} {H : Heap} : PW G (hdW G a b x) H ↔ PW G (hdO G a b x) H ∧ (∀ j, j < 3 → PW G (stW G (sA a j) (x j)) H) ∧ ∀ k, k < 6 → PW G (stW G (sB b k) (x (3 + k))) H := by
  unfold hdW hdT
  rw [PW_app, PW_app, PW_app, PW_app, PW_app, PW_app, PW_app, PW_app, PW_app]
  refine ⟨fun ⟨h0, h1, h2, h3, h4, h5, h6, h7, h8, h9⟩ => ⟨h0, fun j hj => ?_, fun k hk => ?_⟩, fun ⟨h0, h1, h2⟩ => ⟨h0, h1 0 (by omega), h1 1 (by omega), h1 2 (by omega), h2 0 (by omega), h2 1 (by omega), h2 2 (by omega), h2 3 (by omega), h2 4 (by omega), h2 5 (by omega)⟩⟩
  · match j, hj with
    | 0, _ => exact h1
    | 1, _ => exact h2
    | 2, _ => exact h3
    | j + 3, h => exact absurd h (by omega)
  · match k, hk with
    | 0, _ => exact h4
    | 1, _ => exact h5
    | 2, _ => exact h6
    | 3, _ => exact h7
    | 4, _ => exact h8
    | 5, _ => exact h9
    | k + 6, h => exact absurd h (by omega)
theorem hdD_st {G : GT} {a b : Nat → Nat} (h : hdD G a b) (j : Nat) (hj : j < 3) : stD G (sA a j) := ⟨fun i hi => h.1.1 _ (by omega), fun i k hi hk e => by have := h.1.2 (5 + 11 * j + i) (5 + 11 * j + k) (by omega) (by omega) e; omega⟩
theorem hdD_sb {G : GT} {a b : Nat → Nat} (h : hdD G a b) (k : Nat) (hk : k < 6) : stD G (sB b k) := ⟨fun i hi => h.2.1.1 _ (by omega), fun i j hi hj e => by have := h.2.1.2 (11 * k + i) (11 * k + j) (by omega) (by omega) e; omega⟩
theorem hdA_st {a b : Nat → Nat} {j : Nat} (hj : j < 3) {z : Nat} (h : stA (sA a j) z) : hdA a b z := by
  obtain ⟨i, hi, e⟩ := h
  exact Or.inl ⟨5 + 11 * j + i, by omega, e⟩
theorem hdA_sb {a b : Nat → Nat} {k : Nat} (hk : k < 6) {z : Nat} (h : stA (sB b k) z) : hdA a b z := by
  obtain ⟨i, hi, e⟩ := h
  exact Or.inr ⟨11 * k + i, by omega, e⟩
theorem hdD_N {G : GT} {a b : Nat → Nat} (h : hdD G a b) (i j : Nat) (hi : i < 3) (hj : j < 3) (hne : ¬ i = j) : stN (sA a i) (sA a j) := fun u v hu hv e => by have := h.1.2 (5 + 11 * i + u) (5 + 11 * j + v) (by omega) (by omega) e; omega
theorem hdD_Nb {G : GT} {a b : Nat → Nat} (h : hdD G a b) (i k : Nat) (hi : i < 3) (hk : k < 6) : stN (sA a i) (sB b k) := fun u v hu hv e => h.2.2 (5 + 11 * i + u) (11 * k + v) (by omega) (by omega) e
theorem hdD_bN {G : GT} {a b : Nat → Nat} (h : hdD G a b) (i k : Nat) (hi : i < 3) (hk : k < 6) : stN (sB b k) (sA a i) := fun u v hu hv e => h.2.2 (5 + 11 * i + v) (11 * k + u) (by omega) (by omega) e.symm
theorem hdD_bb {G : GT} {a b : Nat → Nat} (h : hdD G a b) (i k : Nat) (hi : i < 6) (hk : k < 6) (hne : ¬ i = k) : stN (sB b i) (sB b k) := fun u v hu hv e => by have := h.2.1.2 (11 * i + u) (11 * k + v) (by omega) (by omega) e; omega
theorem PW_keep {G : GT} {ws : va_W} {H0 H1 : Heap} {A : Nat → Prop} (hP : PW G ws H0) (hk : ∀ q : Nat, q < H0.size → ¬ A q → H1[q]? = H0[q]?) (hn : naW A ws) : PW G ws H1 := hP.kept (fun k q h => hk q.1 (hP k q h).lt (hn k q h))
theorem hdO_na {G : GT} {a b : Nat → Nat} (h : hdD G a b) (x : HV) (j : Nat) (hj : j < 3) : naW (stA (sA a j)) (hdO G a b x) := fun k p hk ⟨i, hi, e⟩ => by
  obtain ⟨u1, u2⟩ := hdO_at hk
  have := h.1.2 k (5 + 11 * j + i) (by omega) (by omega) (by rw [← u2]; exact e)
  omega
theorem hdO_nb {G : GT} {a b : Nat → Nat} (h : hdD G a b) (x : HV) (j : Nat) (hj : j < 6) : naW (stA (sB b j)) (hdO G a b x) := fun k p hk ⟨i, hi, e⟩ => by
  obtain ⟨u1, u2⟩ := hdO_at hk
  exact h.2.2 k (11 * j + i) (by omega) (by omega) (by rw [← u2]; exact e)
theorem hd_setA {G : GT} {a b : Nat → Nat} {x x' : HV} {H0 H1 : Heap} (hq : hdD G a b) (hP : PW G (hdW G a b x) H0) (j : Nat) (hj : j < 3) {v' : SV} (h1 : PW G (stW G (sA a j) v') H1) (hk : ∀ q : Nat, q < H0.size → ¬ stA (sA a j) q → H1[q]? = H0[q]?) (o : hdO G a b x' = hdO G a b x) (e1 : x' j = v') (e2 : ∀ i, i < 9 → ¬ i = j → x' i = x i) : PW G (hdW G a b x') H1 := by
  have p := hd_iff.mp hP
  refine hd_iff.mpr ⟨by rw [o]; exact PW_keep p.1 hk (hdO_na hq x j hj), fun i hi => ?_, fun k hk6 => ?_⟩
  · by_cases z : i = j
    · subst z; rw [e1]; exact h1
    · rw [e2 i (by omega) z]; exact PW_keep (p.2.1 i hi) hk (stN_na (hdD_N hq j i hj hi (fun q => z q.symm)) _)
  · rw [e2 (3 + k) (by omega) (by omega)]; exact PW_keep (p.2.2 k hk6) hk (stN_na (hdD_Nb hq j k hj hk6) _)
theorem hd_setB {G : GT} {a b : Nat → Nat} {x x' : HV} {H0 H1 : Heap} (hq : hdD G a b) (hP : PW G (hdW G a b x) H0) (j : Nat) (hj : j < 6) {v' : SV} (h1 : PW G (stW G (sB b j) v') H1) (hk : ∀ q : Nat, q < H0.size → ¬ stA (sB b j) q → H1[q]? = H0[q]?) (o : hdO G a b x' = hdO G a b x) (e1 : x' (3 + j) = v') (e2 : ∀ i, i < 9 → ¬ i = 3 + j → x' i = x i) : PW G (hdW G a b x') H1 := by
  have p := hd_iff.mp hP
  refine hd_iff.mpr ⟨by rw [o]; exact PW_keep p.1 hk (hdO_nb hq x j hj), fun i hi => ?_, fun k hk6 => ?_⟩
  · rw [e2 i (by omega) (by omega)]; exact PW_keep (p.2.1 i hi) hk (stN_na (hdD_bN hq i j hi hj) _)
  · by_cases z : k = j
    · subst z; rw [e1]; exact h1
    · rw [e2 (3 + k) (by omega) (by omega)]; exact PW_keep (p.2.2 k hk6) hk (stN_na (hdD_bb hq j k hj hk6 (fun q => z q.symm)) _)
section HDS
variable {G : GT} {a b : Nat → Nat} {x : HV} {H0 H1 : Heap} {v' u' : SV} {r' : Nat → Int32}
theorem hd_st0 (h : PW G (hdW G a b x) H0) : PW G (stW G (sA a 0) (x 0)) H0 := (hd_iff.mp h).2.1 0 (by decide)
theorem hd_st1 (h : PW G (hdW G a b x) H0) : PW G (stW G (sA a 1) (x 1)) H0 := (hd_iff.mp h).2.1 1 (by decide)
theorem hd_st2 (h : PW G (hdW G a b x) H0) : PW G (stW G (sA a 2) (x 2)) H0 := (hd_iff.mp h).2.1 2 (by decide)
theorem hd_set0 (hq : hdD G a b) (hP : PW G (hdW G a b x) H0) (h1 : PW G (stW G (sA a 0) v') H1) (hk : ∀ q : Nat, q < H0.size → ¬ stA (sA a 0) q → H1[q]? = H0[q]?) : PW G (hdW G a b (mkH v' (x 1) (x 2) (x 3) (x 4) (x 5) (x 6) (x 7) (x 8) (x 9 0) (x 9 1) (x 9 2 0) (x 9 2 1) (x 9 2 2))) H1 :=
  hd_setA hq hP 0 (by decide) h1 hk rfl rfl (fun i h n => match i, h, n with
    | 0, _, n => absurd rfl n
    | 1, _, _ => rfl
    | 2, _, _ => rfl
    | 3, _, _ => rfl
    | 4, _, _ => rfl
    | 5, _, _ => rfl
    | 6, _, _ => rfl
    | 7, _, _ => rfl
    | 8, _, _ => rfl
    | i + 9, h, _ => absurd h (by omega))
theorem hd_set1 (hq : hdD G a b) (hP : PW G (hdW G a b x) H0) (h1 : PW G (stW G (sA a 1) v') H1) (hk : ∀ q : Nat, q < H0.size → ¬ stA (sA a 1) q → H1[q]? = H0[q]?) : PW G (hdW G a b (mkH (x 0) v' (x 2) (x 3) (x 4) (x 5) (x 6) (x 7) (x 8) (x 9 0) (x 9 1) (x 9 2 0) (x 9 2 1) (x 9 2 2))) H1 :=
  hd_setA hq hP 1 (by decide) h1 hk rfl rfl (fun i h n => match i, h, n with
    | 0, _, _ => rfl
    | 1, _, n => absurd rfl n
    | 2, _, _ => rfl
    | 3, _, _ => rfl
    | 4, _, _ => rfl
    | 5, _, _ => rfl
    | 6, _, _ => rfl
    | 7, _, _ => rfl
    | 8, _, _ => rfl
    | i + 9, h, _ => absurd h (by omega))
theorem hd_set2 (hq : hdD G a b) (hP : PW G (hdW G a b x) H0) (h1 : PW G (stW G (sA a 2) v') H1) (hk : ∀ q : Nat, q < H0.size → ¬ stA (sA a 2) q → H1[q]? = H0[q]?) : PW G (hdW G a b (mkH (x 0) (x 1) v' (x 3) (x 4) (x 5) (x 6) (x 7) (x 8) (x 9 0) (x 9 1) (x 9 2 0) (x 9 2 1) (x 9 2 2))) H1 :=
  hd_setA hq hP 2 (by decide) h1 hk rfl rfl (fun i h n => match i, h, n with
    | 0, _, _ => rfl
    | 1, _, _ => rfl
    | 2, _, n => absurd rfl n
    | 3, _, _ => rfl
    | 4, _, _ => rfl
    | 5, _, _ => rfl
    | 6, _, _ => rfl
    | 7, _, _ => rfl
    | 8, _, _ => rfl
    | i + 9, h, _ => absurd h (by omega))
abbrev bA (a : Nat → Nat) : Nat → Nat := fun i => a (2 + i)
theorem hd_bf (h : PW G (hdW G a b x) H0) : PW G (bfW G (bA a) (mkB (x 9 0) (x 9 2 2))) H0 := fun k p hk => match k, hk with
  | 0, hk => (hd_iff.mp h).1 2 p hk
  | 1, hk => (hd_iff.mp h).1 3 p hk
  | k + 2, hk => absurd (fst_of (n := 2) (q := bA a) rfl hk).1 (by omega)
theorem hd_rr (h : PW G (hdW G a b x) H0) : PW G (rrW G (a 4) (x 9 1)) H0 := fun k p hk => match k, hk with
  | 0, hk => (hd_iff.mp h).1 4 p hk
  | k + 1, hk => absurd (fst_of (n := 1) (q := fun _ => a 4) rfl hk).1 (by omega)
theorem hdD_bf (h : hdD G a b) : bfD G (bA a) := ⟨fun i hi => h.1.1 _ (by omega), fun i k hi hk e => by have := h.1.2 (2 + i) (2 + k) (by omega) (by omega) e; omega⟩
theorem hdD_rr (h : hdD G a b) : gL G ≤ a 4 := h.1.1 4 (by omega)
theorem hdD_rb (h : hdD G a b) : bfN (a 4) (bA a) := fun i hi e => by have := h.1.2 (2 + i) 4 (by omega) (by omega) e; omega
theorem hdA_bf {z : Nat} (h : bfA (bA a) z) : hdA a b z := by
  obtain ⟨i, hi, e⟩ := h
  exact Or.inl ⟨2 + i, by omega, e⟩
theorem hdA_rr {z : Nat} (h : z = a 4) : hdA a b z := Or.inl ⟨4, by omega, h⟩
theorem hd_own {x' : HV} {A : Nat → Prop} (hP : PW G (hdW G a b x) H0) (hk : ∀ q : Nat, q < H0.size → ¬ A q → H1[q]? = H0[q]?) (hA : ∀ z, A z → ∃ i, i < 5 ∧ z = a i) (hq : hdD G a b) (h1 : PW G (hdO G a b x') H1) (e2 : ∀ i, i < 9 → x' i = x i) : PW G (hdW G a b x') H1 := by
  have p := hd_iff.mp hP
  refine hd_iff.mpr ⟨h1, fun i hi => ?_, fun k hk6 => ?_⟩
  · rw [e2 i (by omega)]
    refine PW_keep (p.2.1 i hi) hk (fun k p hk z => ?_)
    obtain ⟨n, hn, e⟩ := hA _ z
    obtain ⟨u1, u2⟩ := stW_at hk
    have := hq.1.2 (5 + 11 * i + k) n (by omega) (by omega) (by rw [← e, u2]; rfl)
    omega
  · rw [e2 (3 + k) (by omega)]
    refine PW_keep (p.2.2 k hk6) hk (fun j p hj z => ?_)
    obtain ⟨n, hn, e⟩ := hA _ z
    obtain ⟨u1, u2⟩ := stW_at hj
    exact hq.2.2 n (11 * k + j) (by omega) (by omega) (by rw [← e, u2]; rfl)
theorem hd_setBf (hq : hdD G a b) (hP : PW G (hdW G a b x) H0) (h1 : PW G (bfW G (bA a) u') H1) (hk : ∀ q : Nat, q < H0.size → ¬ bfA (bA a) q → H1[q]? = H0[q]?) : PW G (hdW G a b (mkH (x 0) (x 1) (x 2) (x 3) (x 4) (x 5) (x 6) (x 7) (x 8) (u' 0) (x 9 1) (x 9 2 0) (x 9 2 1) (u' 1 0))) H1 := by
  have o := (hd_iff.mp hP).1
  refine hd_own hP hk (fun z ⟨i, hi, e⟩ => ⟨2 + i, by omega, e⟩) hq (fun k p hp => ?_) (fun i h => match i, h with
    | 0, _ => rfl
    | 1, _ => rfl
    | 2, _ => rfl
    | 3, _ => rfl
    | 4, _ => rfl
    | 5, _ => rfl
    | 6, _ => rfl
    | 7, _ => rfl
    | 8, _ => rfl
    | i + 9, h => absurd h (by omega))
  have kp : ∀ n, n < 5 → ¬ n = 2 → ¬ n = 3 → (hdO G a b x)[n]? = some p → va_at G.1 vwCl p H1 := fun n h5 n2 n3 hn => (o n p hn).kept (hk p.1 (o n p hn).lt (fun ⟨i, hi, e⟩ => by
    have := hq.1.2 n (2 + i) (by omega) (by omega) (by rw [← (hdO_at hn).2]; exact e)
    omega))
  match k, hp with
  | 0, hp => exact kp 0 (by decide) (by decide) (by decide) hp
  | 1, hp => exact kp 1 (by decide) (by decide) (by decide) hp
  | 2, hp => exact h1 0 p hp
  | 3, hp => exact h1 1 p hp
  | 4, hp => exact kp 4 (by decide) (by decide) (by decide) hp
  | k + 5, hp => exact absurd (hdO_at hp).1 (by omega)
theorem hd_setRr (hq : hdD G a b) (hP : PW G (hdW G a b x) H0) (h1 : PW G (rrW G (a 4) r') H1) (hk : ∀ q : Nat, q < H0.size → ¬ (fun z => z = a 4) q → H1[q]? = H0[q]?) : PW G (hdW G a b (mkH (x 0) (x 1) (x 2) (x 3) (x 4) (x 5) (x 6) (x 7) (x 8) (x 9 0) r' (x 9 2 0) (x 9 2 1) (x 9 2 2))) H1 := by
  have o := (hd_iff.mp hP).1
  refine hd_own hP hk (fun z e => ⟨4, by omega, e⟩) hq (fun k p hp => ?_) (fun i h => match i, h with
    | 0, _ => rfl
    | 1, _ => rfl
    | 2, _ => rfl
    | 3, _ => rfl
    | 4, _ => rfl
    | 5, _ => rfl
    | 6, _ => rfl
    | 7, _ => rfl
    | 8, _ => rfl
    | i + 9, h => absurd h (by omega))
  have kp : ∀ n, n < 4 → (hdO G a b x)[n]? = some p → va_at G.1 vwCl p H1 := fun n h5 hn => (o n p hn).kept (hk p.1 (o n p hn).lt (fun e => by
    have := hq.1.2 n 4 (by omega) (by omega) (by rw [← (hdO_at hn).2]; exact e)
    omega))
  match k, hp with
  | 0, hp => exact kp 0 (by decide) hp
  | 1, hp => exact kp 1 (by decide) hp
  | 2, hp => exact kp 2 (by decide) hp
  | 3, hp => exact kp 3 (by decide) hp
  | 4, hp => exact h1 0 p hp
  | k + 5, hp => exact absurd (hdO_at hp).1 (by omega)
end HDS
