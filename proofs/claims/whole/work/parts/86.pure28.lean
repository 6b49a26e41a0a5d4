/-! the text: the reference reads on, the class takes a character at a time -/
section PA
variable {c : Nat → Int32} {l : Nat}
/-- the reference stands at the place i of the text c of l characters -/
def At (c : Nat → Int32) (l : Nat) (v : SV) (i : Nat) : Prop := (∀ j, j < l → v 4 j = c j) ∧ v 8 6 = nI l ∧ v 8 7 = nI i ∧ i ≤ l
def cx (c : Nat → Int32) (l i : Nat) : Int32 := if i < l then c i else 0
theorem At.fr {v u : SV} {i k : Nat} (h : At c l v i) (f : FR7 v u) (h7 : u 8 7 = nI k) (hk : k ≤ l) : At c l u k := ⟨fun j hj => by rw [f.1 4 (by omega)]; exact h.1 j hj, (f.2 6 (by omega) (by omega)).trans h.2.1, h7, hk⟩
theorem sign_at {v : SV} {i : Nat} (hl : l ≤ 60) (h : At c l v i) : fX6_sign v = cx c l i := by
  have := h.2.2.2
  unfold fX6_sign cx
  rw [h.2.1, h.2.2.1]
  by_cases q : i < l
  · rw [if_neg (nI_ge q (by omega)), if_pos q, nI_clamp (by omega), h.1 i q]
  · rw [if_pos (nI_le (by omega) (by omega)), if_neg q]
theorem takes_at {v : SV} {i : Nat} {a : Int32} (hl : l ≤ 60) (h : At c l v i) (ha : ¬ a = 0) {u : SV × Int32} (hu : u = fX6_takes v a) : FR7 v u.1 ∧ ((cx c l i = a ∧ i < l ∧ u.2 = 1 ∧ At c l u.1 (i + 1)) ∨ (¬ cx c l i = a ∧ u.2 = 0 ∧ At c l u.1 i)) := by
  rw [hu]
  unfold fX6_takes
  rw [sign_at hl h]
  dsimp only
  by_cases q : cx c l i = a
  · have hi : i < l := by
      refine Nat.not_le.mp (fun z => ha ?_)
      rw [← q]
      exact if_neg (by omega)
    rw [if_pos q]
    refine ⟨FR7.mk v _, Or.inl ⟨q, hi, rfl, h.fr (FR7.mk v _) ?_ (by omega)⟩⟩
    show v 8 7 + 1 = _
    rw [h.2.2.1, nI_1]
  · rw [if_neg q]
    refine ⟨FR7.mk v _, Or.inr ⟨q, rfl, h.fr (FR7.mk v _) ?_ h.2.2.2⟩⟩
    show v 8 7 + 0 = _
    rw [h.2.2.1, Int32.add_zero]
/-- the class takes the n characters from b on, none of them between parts -/
def Tk (c : Nat → Int32) (b : Nat) (r0 : Nat → Int32) : Nat → (Nat → Int32) → Prop
  | 0, r => r = r0
  | n + 1, r => ∃ r1, Tk c b r0 n r1 ∧ ¬ c (b + n) = 59 ∧ fX1_take r1 (c (b + n)) = (r, 1)
/-- the class can't go on at j -/
def Stk (c : Nat → Int32) (l : Nat) (r : Nat → Int32) (j : Nat) : Prop := (j < l ∧ (fX1_take r (c j)).2 = 0) ∨ (j = l ∧ fX1_isComplete r = 0)
/-- a part may end at j, and must -/
def Dn (c : Nat → Int32) (l : Nat) (r : Nat → Int32) (j : Nat) : Prop := fX1_isComplete r = 1 ∧ (j < l → ¬ c j = 59 → (fX1_take r (c j)).2 = 0)
/-! words -/
def wl (w : Nat) : Nat := wLen.getD w 0
def wc (w k : Nat) : Int32 := fJ0_charAt_5068e w (nI k)
theorem wl_J : ∀ w, w < 8 → fJ0_length_8abf5 w = nI (wl w) := by decide +kernel
theorem wl_le : ∀ w, w < 8 → wl w ≤ 6 := by decide +kernel
theorem wc_ne : ∀ w, w < 8 → ∀ k, k < wl w → ¬ wc w k = 59 ∧ ¬ wc w k = 0 := by decide +kernel
theorem tb_no {r : Nat → Int32} (h : fX1_isComplete r = 0) : fX1_take r 59 = (r, 0) := by
  unfold fX1_take fX1_takeBetween
  rw [if_pos rfl, h, if_pos rfl]
theorem word_take {m kd ds dd p nm x : Int32} (code : Int32) {w k : Nat} (hw : w < 8) (hk : k < wl w) : fX1_take (mkR 1 m (nI w) (nI k) kd ds dd p nm x) code = if wc w k = code then (mkR (if k + 1 = wl w then m else 1) m (nI w) (nI (k + 1)) kd ds dd p nm x, 1) else (mkR 1 m (nI w) (nI k) kd ds dd p nm x, 0) := by
  have hle := wl_le w hw
  by_cases h : code = 59
  · subst h
    rw [if_neg (wc_ne w hw k hk).1]
    exact tb_no rfl
  · have e : fX1_take (mkR 1 m (nI w) (nI k) kd ds dd p nm x) code = fX1_takeOfWord (mkR 1 m (nI w) (nI k) kd ds dd p nm x) code := by
      unfold fX1_take
      rw [if_neg h]
      rfl
    rw [e]
    unfold fX1_takeOfWord
    show (if nI k < 0 then _ else if fJ0_length_8abf5 ((nI w).toNatClampNeg) ≤ nI k then _ else if fJ0_charAt_5068e ((nI w).toNatClampNeg) (nI k) = code then _ else _) = _
    rw [nI_clamp (by omega), wl_J w hw, if_neg (nI_pos (by omega)), if_neg (nI_ge hk (by omega))]
    by_cases q : wc w k = code
    · rw [if_pos (show fJ0_charAt_5068e w (nI k) = code from q), if_pos q]
      show (if nI k + 1 = fJ0_length_8abf5 ((nI w).toNatClampNeg) then _ else _) = _
      rw [nI_clamp (by omega), wl_J w hw, nI_1]
      by_cases z : k + 1 = wl w
      · rw [if_pos (by rw [z]), if_pos z]
        exact congrArg (fun z => (mkR m m (nI w) z kd ds dd p nm x, (1 : Int32))) (nI_1 k)
      · rw [if_neg (fun y => z ((nI_eq (by omega) (by omega)).mp y)), if_neg z]
        exact congrArg (fun z => (mkR 1 m (nI w) z kd ds dd p nm x, (1 : Int32))) (nI_1 k)
    · rw [if_neg (show ¬ fJ0_charAt_5068e w (nI k) = code from q), if_neg q]
theorem word_sync {v : SV} {b n w k : Nat} {r0 : Nat → Int32} {m kd ds dd p nm x a : Int32} (hl : l ≤ 60) (hw : w < 8) (hk : k < wl w) (ha : a = wc w k) (hT : Tk c b r0 n (mkR 1 m (nI w) (nI k) kd ds dd p nm x)) (h : At c l v (b + n)) {u : SV × Int32} (hu : u = fX6_takes v a) :
    FR7 v u.1 ∧ ((u.2 = 1 ∧ Tk c b r0 (n + 1) (mkR (if k + 1 = wl w then m else 1) m (nI w) (nI (k + 1)) kd ds dd p nm x) ∧ At c l u.1 (b + (n + 1))) ∨ (u.2 = 0 ∧ At c l u.1 (b + n) ∧ Stk c l (mkR 1 m (nI w) (nI k) kd ds dd p nm x) (b + n))) := by
  have hne := wc_ne w hw k hk
  obtain ⟨f, g⟩ := takes_at hl h (by rw [ha]; exact hne.2) hu
  refine ⟨f, ?_⟩
  rcases g with ⟨g1, g2, g3, g4⟩ | ⟨g1, g2, g3⟩
  · have hc : c (b + n) = wc w k := by
      have : cx c l (b + n) = c (b + n) := if_pos g2
      rw [← this, g1, ha]
    exact Or.inl ⟨g3, ⟨_, hT, by rw [hc]; exact hne.1, by rw [word_take _ hw hk, hc, if_pos rfl]⟩, g4⟩
  · refine Or.inr ⟨g2, g3, ?_⟩
    by_cases q : b + n < l
    · have hc : ¬ wc w k = c (b + n) := fun z => g1 (by unfold cx; rw [if_pos q, ← z, ha])
      exact Or.inl ⟨q, by rw [word_take _ hw hk, if_neg hc]⟩
    · exact Or.inr ⟨by have := h.2.2.2; omega, rfl⟩
/-- how a reader of the reference ends that fails: the class is stuck at the same place -/
def Bad (c : Nat → Int32) (l b : Nat) (r0 : Nat → Int32) (u : SV × Int32) : Prop := u.2 = 0 ∧ ∃ n r, Tk c b r0 n r ∧ At c l u.1 (b + n) ∧ Stk c l r (b + n)
theorem four_sync {v : SV} {b n w k : Nat} {r0 : Nat → Int32} {m kd ds dd p nm x a1 a2 a3 a4 : Int32} (hl : l ≤ 60) (hw : w < 8) (h1 : a1 = wc w k) (h2 : a2 = wc w (k + 1)) (h3 : a3 = wc w (k + 2)) (h4 : (k + 3 = wl w ∧ a4 = 0) ∨ (k + 3 < wl w ∧ a4 = wc w (k + 3))) (hT : Tk c b r0 n (mkR 1 m (nI w) (nI k) kd ds dd p nm x)) (h : At c l v (b + n)) {u : SV × Int32} (hu : u = fX6_takesFour v a1 a2 a3 a4) :
    FR7 v u.1 ∧ ((u.2 = 1 ∧ ∃ d, (d = 3 ∨ d = 4) ∧ (k + 3 = wl w ↔ d = 3) ∧ Tk c b r0 (n + d) (mkR (if k + d = wl w then m else 1) m (nI w) (nI (k + d)) kd ds dd p nm x) ∧ At c l u.1 (b + (n + d))) ∨ Bad c l b r0 u) := by
  have hk : k + 3 ≤ wl w := by omega
  obtain ⟨t1, e1⟩ : ∃ t, t = fX6_takes v a1 := ⟨_, rfl⟩
  obtain ⟨f1, g1⟩ := word_sync hl hw (by omega) h1 hT h e1
  have ue : u = (if t1.2 = 0 then (t1.1, 0) else if (fX6_takes t1.1 a2).2 = 0 then ((fX6_takes t1.1 a2).1, 0) else if (fX6_takes (fX6_takes t1.1 a2).1 a3).2 = 0 then ((fX6_takes (fX6_takes t1.1 a2).1 a3).1, 0) else if a4 = 0 then ((fX6_takes (fX6_takes t1.1 a2).1 a3).1, 1) else if (fX6_takes (fX6_takes (fX6_takes t1.1 a2).1 a3).1 a4).2 = 0 then ((fX6_takes (fX6_takes (fX6_takes t1.1 a2).1 a3).1 a4).1, 0) else ((fX6_takes (fX6_takes (fX6_takes t1.1 a2).1 a3).1 a4).1, 1)) := by
    rw [hu, e1]
    rfl
  rcases g1 with ⟨g1, T1, A1⟩ | ⟨g1, A1, S1⟩
  · rw [g1, if_neg (by decide)] at ue
    rw [if_neg (by omega)] at T1
    obtain ⟨t2, e2⟩ : ∃ t, t = fX6_takes t1.1 a2 := ⟨_, rfl⟩
    rw [← e2] at ue
    obtain ⟨f2, g2⟩ := word_sync hl hw (by omega) h2 T1 A1 e2
    rcases g2 with ⟨g2, T2, A2⟩ | ⟨g2, A2, S2⟩
    · rw [g2, if_neg (by decide)] at ue
      rw [if_neg (by omega)] at T2
      obtain ⟨t3, e3⟩ : ∃ t, t = fX6_takes t2.1 a3 := ⟨_, rfl⟩
      rw [← e3] at ue
      obtain ⟨f3, g3⟩ := word_sync hl hw (by omega) h3 T2 A2 e3
      rcases g3 with ⟨g3, T3, A3⟩ | ⟨g3, A3, S3⟩
      · rw [g3, if_neg (by decide)] at ue
        rcases h4 with ⟨h4, h5⟩ | ⟨h4, h5⟩
        · rw [if_pos h5] at ue
          rw [ue]
          exact ⟨(f1.tr f2).tr f3, Or.inl ⟨rfl, 3, Or.inl rfl, ⟨fun _ => rfl, fun _ => h4⟩, T3, A3⟩⟩
        · rw [if_neg (by rw [h5]; exact (wc_ne w hw _ h4).2)] at ue
          rw [if_neg (by omega)] at T3
          obtain ⟨t4, e4⟩ : ∃ t, t = fX6_takes t3.1 a4 := ⟨_, rfl⟩
          rw [← e4] at ue
          obtain ⟨f4, g4⟩ := word_sync hl hw (by omega) h5 T3 A3 e4
          rcases g4 with ⟨g4, T4, A4⟩ | ⟨g4, A4, S4⟩
          · rw [g4, if_neg (by decide)] at ue
            rw [ue]
            exact ⟨((f1.tr f2).tr f3).tr f4, Or.inl ⟨rfl, 4, Or.inr rfl, ⟨fun z => absurd z (by omega), fun z => absurd z (by omega)⟩, T4, A4⟩⟩
          · rw [g4, if_pos rfl] at ue
            rw [ue]
            exact ⟨((f1.tr f2).tr f3).tr f4, Or.inr ⟨rfl, _, _, T3, A4, S4⟩⟩
      · rw [g3, if_pos rfl] at ue
        rw [ue]
        exact ⟨(f1.tr f2).tr f3, Or.inr ⟨rfl, _, _, T2, A3, S3⟩⟩
    · rw [g2, if_pos rfl] at ue
      rw [ue]
      exact ⟨f1.tr f2, Or.inr ⟨rfl, _, _, T1, A2, S2⟩⟩
  · rw [g1, if_pos rfl] at ue
    rw [ue]
    exact ⟨f1, Or.inr ⟨rfl, _, _, hT, A1, S1⟩⟩
end PA
