/-! the law's own arrays -/
def mkL (r0 r1 r2 r3 r4 : Nat → Int32) : SV := fun i => match i with
  | 0 => r0
  | 1 => r1
  | 2 => r2
  | 3 => r3
  | _ => r4
/-- 0 heat, 1 dots, 2 faint, 3 strip, 4 numbers -/
def lwW (G : GT) (q : Nat → Nat) (v : SV) : va_W := [(q 0, .inl (gI G, 24, .inl (v 0))), (q 1, .inl (gI G, 24, .inl (v 1))), (q 2, .inl (gI G, 24, .inl (v 2))), (q 3, .inl (gI G, 36, .inl (v 3))), (q 4, .inl (gI G, 21, .inl (v 4)))]
def lwA (q : Nat → Nat) : Nat → Prop := fun a => ∃ i, i < 5 ∧ a = q i
def lwD (G : GT) (q : Nat → Nat) : Prop := (∀ i, i < 5 → gL G ≤ q i) ∧ ∀ i j, i < 5 → j < 5 → q i = q j → i = j
theorem lwD_D {G : GT} {q : Nat → Nat} (h : lwD G q) (v : SV) : va_D (lwA q) (lwW G q v) := va_D_of (n := 5) (q := q) rfl (fun i hi => ⟨i, hi, rfl⟩) h.2
theorem lwD_low {G : GT} {q : Nat → Nat} (h : lwD G q) : ∀ a, lwA q a → gL G ≤ a := fun a ⟨i, hi, e⟩ => by rw [e]; exact h.1 i hi
theorem lw_na {G : GT} {q : Nat → Nat} {A : Nat → Prop} (h : ∀ z, lwA q z → ¬ A z) (v : SV) : naW A (lwW G q v) := fun k p hk hA => by
  obtain ⟨a1, a2⟩ := fst_of (n := 5) (q := q) rfl hk
  exact h p.1 ⟨k, a1, a2⟩ hA
theorem hd_na {G : GT} {a b : Nat → Nat} {A : Nat → Prop} (hq : hdD G a b) (h : ∀ z, hdA a b z → ¬ A z) (x : HV) : naW A (hdW G a b x) := fun k p hk hA => h p.1 ((hdD_D hq x).2 k p hk) hA
/-- arrays and HeadDots -/
def jnA (q a b : Nat → Nat) : Nat → Prop := fun z => lwA q z ∨ hdA a b z
theorem jnA_low {G : GT} {q a b : Nat → Nat} (hql : lwD G q) (hq : hdD G a b) : ∀ z, jnA q a b z → gL G ≤ z := fun z h => h.elim (lwD_low hql z) (hdD_low hq z)
theorem jnA_R {G : GT} {q a b b' : Nat → Nat} (hR : hdR G a b b') {z : Nat} (h : jnA q a b' z) : jnA q a b z := h.elim Or.inl (fun h => Or.inr (hR.2 z h))
theorem jn_D {G : GT} {q a b : Nat → Nat} {A : Nat → Prop} (hql : lwD G q) (hq : hdD G a b) (hN : ∀ z, lwA q z → ¬ hdA a b z) (h1 : ∀ z, lwA q z → A z) (h2 : ∀ z, hdA a b z → A z) (v : SV) (x : HV) : va_D A (lwW G q v ++ hdW G a b x) :=
  va_D_app (va_D_mono (lwD_D hql v) h1) (va_D_mono (hdD_D hq x) h2) (fun i j p r hp hr e => hN p.1 ((lwD_D hql v).2 i p hp) (by rw [e]; exact (hdD_D hq x).2 j r hr))
theorem jn_lw {G : GT} {q a b : Nat → Nat} {v v' : SV} {x : HV} {H0 H1 : Heap} (hq : hdD G a b) (hN : ∀ z, lwA q z → ¬ hdA a b z) (hP : PW G (lwW G q v ++ hdW G a b x) H0) (hk : ∀ z : Nat, z < H0.size → ¬ lwA q z → H1[z]? = H0[z]?) (h1 : PW G (lwW G q v') H1) : PW G (lwW G q v' ++ hdW G a b x) H1 :=
  PW_app.mpr ⟨h1, PW_keep (PW_app.mp hP).2 hk (hd_na hq (fun z h k => hN z k h) x)⟩
theorem jn_hd {G : GT} {q a b : Nat → Nat} {v : SV} {x x' : HV} {H0 H1 : Heap} (hql : lwD G q) (hN : ∀ z, lwA q z → ¬ hdA a b z) (hP : PW G (lwW G q v ++ hdW G a b x) H0) (hk : ∀ z : Nat, z < H0.size → ¬ hdA a b z → H1[z]? = H0[z]?) (h1 : PW G (hdW G a b x') H1) : PW G (lwW G q v ++ hdW G a b x') H1 :=
  PW_app.mpr ⟨PW_keep (PW_app.mp hP).1 hk (lw_na hN v), h1⟩
theorem jn_hdN {G : GT} {q a b : Nat → Nat} {v : SV} {x x' : HV} {H0 H1 : Heap} (hql : lwD G q) (hN : ∀ z, lwA q z → ¬ hdA a b z) (hP : PW G (lwW G q v ++ hdW G a b x) H0) (hk : ∀ z : Nat, z < H0.size → ¬ hdA a b z → H1[z]? = H0[z]?) (h1 : ∃ b', hdR G a b b' ∧ PW G (hdW G a b' x') H1) : ∃ b', hdR G a b b' ∧ PW G (lwW G q v ++ hdW G a b' x') H1 := by
  obtain ⟨b', hR, h⟩ := h1
  exact ⟨b', hR, PW_app.mpr ⟨PW_keep (PW_app.mp hP).1 hk (lw_na hN v), h⟩⟩
theorem RD_keep {a n : Nat} {f : Nat → Int32} {s : State} {A : Nat → Prop} {H0 H : Heap} {locs : List Loc} (h : RD a n f s H0) (hS : va_S A H0 H locs) (hn : ¬ A a) : RD a n f s H := by
  obtain ⟨cell, h1, h2⟩ := h
  exact ⟨cell, by rw [hS.2.1 a (Array.getElem?_eq_some_iff.mp h1).1 hn]; exact h1, h2⟩
theorem a1W_DA {G : GT} {a n : Nat} {A : Nat → Prop} (h : A a) (f : Nat → Int32) : va_D A (a1W G a n f) := va_D_of (n := 1) (q := fun _ => a) rfl (fun _ _ => h) (fun i j hi hj _ => by omega)
/-! what the settings are -/
def LSn (n : Nat → Int32) : Prop := (∃ c, 50 ≤ c ∧ c ≤ 300 ∧ n 0 = nI c) ∧ (∃ c, 5 ≤ c ∧ c ≤ 200 ∧ n 1 = nI c) ∧ (∃ c, 330 ≤ c ∧ c ≤ 900 ∧ n 2 = nI c) ∧ (∃ c, 1 ≤ c ∧ c ≤ 20 ∧ n 3 = nI c) ∧ (∃ c, 1 ≤ c ∧ c ≤ 200 ∧ n 4 = nI c) ∧ (∃ c, c ≤ 1 ∧ n 5 = nI c) ∧ (∃ c, c ≤ 50 ∧ n 6 = nI c) ∧ (∃ c, c ≤ 2 ∧ n 7 = nI c)
def Lgs (v : SV) : Prop := LSn (v 4)
theorem LSn_of {n m : Nat → Int32} (h : LSn n) (e : ∀ j, j < 8 → m j = n j) : LSn m := by
  unfold LSn at h ⊢
  rw [e 0 (by omega), e 1 (by omega), e 2 (by omega), e 3 (by omega), e 4 (by omega), e 5 (by omega), e 6 (by omega), e 7 (by omega)]
  exact h
theorem LS_upd {v : SV} {r0 r1 r2 r3 : Nat → Int32} {k : Nat} {x : Int32} (h : Lgs v) (hk : 8 ≤ k) : Lgs (mkL r0 r1 r2 r3 (upd (v 4) k x)) := LSn_of h (fun j hj => pk_un (by omega))
theorem LSn_upd {n : Nat → Int32} {k : Nat} {x : Int32} (h : LSn n) (hk : 8 ≤ k) : LSn (upd n k x) := LSn_of h (fun j hj => pk_un (by omega))
theorem LS_1 {v : SV} (h : Lgs v) : ¬ v 4 1 = 0 := by
  obtain ⟨-, ⟨c, h1, h2, h3⟩, -⟩ := h
  rw [h3]; exact nI_ne0 (by omega) (by omega)
theorem LS_3 {v : SV} (h : Lgs v) : ¬ v 4 3 = 0 := by
  obtain ⟨-, -, -, ⟨c, h1, h2, h3⟩, -⟩ := h
  rw [h3]; exact nI_ne0 (by omega) (by omega)
theorem ne_nle {x : Int32} (h : ¬ x ≤ 0) : ¬ x = 0 := fun e => h (by rw [e]; decide)
/-- how many dots at once -/
def mny (z : Int32) : Prop := ∃ m, 1 ≤ m ∧ m ≤ 200 ∧ z = nI m
theorem mny_1 : mny 1 := ⟨1, by omega, by omega, rfl⟩
theorem mny_q {v : SV} (h : Lgs v) (k : ¬ v 4 4 / v 4 3 ≤ 0) : mny (v 4 4 / v 4 3) := by
  obtain ⟨-, -, -, ⟨c, h1, h2, h3⟩, ⟨d, g1, g2, g3⟩, -⟩ := h
  rw [h3, g3, pk_div (by omega) (by omega) (by omega)] at k ⊢
  refine ⟨d / c, Nat.pos_of_ne_zero (fun z => k ?_), Nat.le_trans (Nat.div_le_self _ _) g2, rfl⟩
  rw [z]; decide
theorem mny_ne {z : Int32} (h : mny z) : ¬ z = 0 := by
  obtain ⟨m, h1, h2, e⟩ := h
  rw [e]; exact nI_ne0 (by omega) (by omega)
