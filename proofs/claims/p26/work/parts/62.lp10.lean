/-! wouldDot answers 1 -/
theorem cool_m1 (c h : Nat) (hc : 1 ≤ c) : cool c h ≤ cool c (h + 1) := by
  have h1 : (h + 1) / c ≤ h / c + 1 := by
    have := Nat.div_add_mod h c
    have := Nat.mod_lt h hc
    refine Nat.le_of_lt_succ ((Nat.div_lt_iff_lt_mul hc).mpr ?_)
    have e : (h / c + 1).succ * c = c * (h / c) + 2 * c := by
      rw [Nat.succ_eq_add_one, Nat.add_mul, Nat.add_mul, Nat.mul_comm]
      omega
    rw [e]
    omega
  unfold cool
  omega
theorem cool_m (c : Nat) (hc : 1 ≤ c) (a n : Nat) : cool c a ≤ cool c (a + n) := by
  induction n with
  | zero => exact Nat.le_refl _
  | succ n ih => exact Nat.le_trans ih (cool_m1 c (a + n) hc)
theorem coolN_m (c : Nat) (hc : 1 ≤ c) (t : Nat) : ∀ a b, a ≤ b → coolN c t a ≤ coolN c t b := by
  induction t with
  | zero => exact fun a b h => h
  | succ t ih =>
    intro a b h
    obtain ⟨n, rfl⟩ := Nat.exists_eq_add_of_le h
    exact ih _ _ (cool_m c hc a n)
theorem mxN_at (f : Nat → Nat) (n : Nat) (hn : 0 < n) : ∃ d, d < n ∧ f d = mxN n (fun _ => true) f := by
  induction n with
  | zero => omega
  | succ n ih =>
    rw [mxN_t rfl]
    rcases Nat.eq_zero_or_pos n with z | z
    · subst z
      exact ⟨0, by omega, (Nat.zero_max _).symm⟩
    · obtain ⟨d, h1, h2⟩ := ih z
      by_cases q : mxN n (fun _ => true) f ≤ f n
      · exact ⟨n, by omega, (Nat.max_eq_right q).symm⟩
      · exact ⟨d, by omega, by rw [Nat.max_eq_left (by omega)]; exact h2⟩
theorem hotW_no {f : Nat → Int32} {x2 : Int32} (h : ∀ d, d < 24 → f d ≤ x2) : hotW f x2 = 0 := by
  unfold hotW
  refine lpF_0 (fun _ s => s = 0) 24 0 ?_ rfl
  rintro d s hd rfl
  rw [if_pos rfl, if_pos (h d hd)]
theorem hotW_yes {f : Nat → Int32} {x2 : Int32} {k : Nat} (hk : k < 24) (h : ¬ f k ≤ x2) : hotW f x2 = 1 := by
  unfold hotW
  have q := lpF_0 (fun d (s : Int32) => (s = 0 ∨ s = 1) ∧ (k < d → s = 1)) (b := fun d s => if s = 0 then (if f d ≤ x2 then (0 : Int32) else 1) else 1) 24 0 ?_ ⟨Or.inl rfl, fun z => by omega⟩
  · exact q.2 hk
  · rintro d s hd ⟨a1, a2⟩
    by_cases z : s = 0
    · rw [if_pos z]
      by_cases y : f d ≤ x2
      · rw [if_pos y]
        refine ⟨Or.inl rfl, fun w => ?_⟩
        by_cases e : k = d
        · subst e; exact absurd y h
        · exact absurd (a2 (by omega)) (by rw [z]; decide)
      · rw [if_neg y]; exact ⟨Or.inr rfl, fun _ => rfl⟩
    · rw [if_neg z]; exact ⟨Or.inr rfl, fun _ => rfl⟩
theorem cool18 {x : HV} {v : SV} {f2 : Nat → Int32} {k1 c m T : Nat} {h : Nat → Nat} (h1 : v 4 1 = nI c) (hc : 1 ≤ c) (hc2 : c ≤ 200) (hm : m ≤ 900) (hh : ∀ d, h d ≤ 900) (hT : T ≤ 900) (ha : ∀ i, i < T → ∃ d, d < 24 ∧ m < coolN c i (h d)) (hb : ∀ d, d < 24 → coolN c T (h d) ≤ m) {f : Nat → Int32} (h0 : ∀ d, d < 24 → f d = nI (h d)) (N : Nat) (hN : 1000 ≤ N) :
    (lpB N (bL_wouldDot_18 x v f2 k1 (nI m)) (0, 1, f)).1 = nI T := by
  refine lpB_ind (Q := fun s : Int32 × Int32 × (Nat → Int32) => s.1 = nI T) (fun i (s : Int32 × Int32 × (Nat → Int32)) => (i ≤ T ∧ s.1 = nI i ∧ ¬ s.2.1 = 0 ∧ ∀ d, d < 24 → s.2.2 d = nI (coolN c i (h d))) ∨ (i = T + 1 ∧ s.1 = nI T ∧ s.2.1 = 0)) (T + 1) ?_ ?_ N 0 (0, 1, f) (Nat.zero_le _) (by omega) (Or.inl ⟨Nat.zero_le _, nI_0.symm, one_ne, h0⟩)
  · rintro i ⟨y5, y6, g⟩ hi (⟨a1, a2, a3, a4⟩ | ⟨a1, -, -⟩)
    · dsimp only at a2 a3 a4
      by_cases q : i < T
      · obtain ⟨d, hd, hg⟩ := ha i q
        have hl := coolN_le c i (h d)
        have e1 : hotW g (nI m) = 1 := hotW_yes hd (by rw [a4 d hd]; exact nI_ge hg (by have := hh d; omega))
        obtain ⟨g', e, hg'⟩ := wd18_b (x := x) (v := v) (f2 := f2) (k1 := k1) (y5 := y5) a3 (by rw [e1]; exact one_ne)
        rw [e1] at e
        rw [e]
        refine ⟨rfl, Or.inl ⟨q, (congrArg (fun z => z + 1) a2).trans (nI_1 i), one_ne, fun j hj => ?_⟩⟩
        have hlj := coolN_le c i (h j)
        have := hh j
        exact (hg' j hj).trans (by rw [a4 j hj, h1, less_n hc (by omega) (by omega), coolN_s])
      · have hiT : i = T := by omega
        subst hiT
        have e1 : hotW g (nI m) = 0 := hotW_no (fun d hd => by rw [a4 d hd]; exact nI_le (hb d hd) (by omega))
        obtain ⟨y, e, ey⟩ := wd18_a (x := x) (v := v) (f2 := f2) (k1 := k1) (y5 := y5) a3 e1
        rw [e]
        refine ⟨rfl, Or.inr ⟨rfl, ?_, rfl⟩⟩
        show y = _
        rw [ey, a2, Int32.add_zero]
    · omega
  · rintro ⟨y5, y6, g⟩ (⟨a1, -, -, -⟩ | ⟨-, a2, a3⟩)
    · omega
    · dsimp only at a2 a3
      have e : bL_wouldDot_18 x v f2 k1 (nI m) (y5, y6, g) = (false, (y5, y6, g)) := by
        unfold bL_wouldDot_18
        exact if_pos a3
      rw [e]
      exact ⟨rfl, a2⟩
theorem wait154 {x : HV} {v : SV} {f2 : Nat → Int32} {k1 : Nat} {x2 y5 : Int32} {f : Nat → Int32} {d c bd p h : Nat} (h1 : v 4 1 = nI c) (h2 : v 4 2 = nI bd) (hc : 1 ≤ c) (hc2 : c ≤ 200) (hb : bd ≤ 900) (hp : p ≤ bd) (hh : h ≤ 900) (N : Nat) (hN : 1000 ≤ N) :
    lpB N (bL_wouldDot_154 x v f2 k1 x2 y5 f d (nI p)) (nI h) = nI (coolN c (wN c (bd - p) h) h) := by
  have hw := wN_le c (bd - p) h
  refine lpB_ind (Q := fun s : Int32 => s = nI (coolN c (wN c (bd - p) h) h)) (fun i s => s = nI (coolN c i h)) (wN c (bd - p) h) ?_ ?_ N 0 _ (Nat.zero_le _) (by omega) rfl
  · rintro i s hi rfl
    have k1' : bd - p < coolN c i h := Nat.not_le.mp (fun q => Nat.not_le.mpr hi (wN_c.mp q))
    have k2 := coolN_le c i h
    have e : bL_wouldDot_154 x v f2 k1 x2 y5 f d (nI p) (nI (coolN c i h)) = (true, nI (coolN c (i + 1) h)) := by
      unfold bL_wouldDot_154
      dsimp only
      rw [nI_add, h1, h2, if_neg (nI_ge (by omega) (by omega)), less_n hc (by omega) (by omega), coolN_s]
    rw [e]
    exact ⟨rfl, rfl⟩
  · rintro s rfl
    have k1' : coolN c (wN c (bd - p) h) h ≤ bd - p := wN_c.mpr (Nat.le_refl _)
    have e : bL_wouldDot_154 x v f2 k1 x2 y5 f d (nI p) (nI (coolN c (wN c (bd - p) h) h)) = (false, nI (coolN c (wN c (bd - p) h) h)) := by
      unfold bL_wouldDot_154
      dsimp only
      rw [nI_add, h2, if_pos (nI_le (by omega) (by omega))]
    rw [e]
    exact ⟨rfl, rfl⟩
theorem d126_e {x : HV} {v : SV} {B k1 s : Nat} {f2 : Nat → Int32} {x2 y5 : Int32} {f : Nat → Int32} (G : Gd B (rw v)) (hk : k1 < 24) (h1 : 50 ≤ s) (h2 : s ≤ 300) {y : Int32} (hy : ¬ 0 ≤ y) :
    bL_wouldDot_126 x v f2 k1 x2 y5 f s y = Sum.inl (if dkB (rw v) k1 s then nI s else -1) := by
  obtain ⟨-, ⟨e75, b3, b4⟩, ⟨e76, b5, b6⟩, -, -, -, -, e81, b7⟩ := SI_n G.1
  have hp := psN_spec G.1 0 k1 h1 h2
  have eh := G.2.1 k1 hk
  have eh0 : v 0 k1 = nI (aN (rw v) k1) := (rw_h hk).symm.trans eh.1
  have hmT : 1000 ≤ mT + 1 := by have : mT = 2147483648 := rfl; omega
  have hl := coolN_le (aN (rw v) 75) (wN (aN (rw v) 75) (aN (rw v) 76 - psN (rw v) 0 k1 (nI s)) (aN (rw v) k1)) (aN (rw v) k1)
  have ew := wait154 (x := x) (v := v) (f2 := f2) (k1 := k1) (x2 := x2) (y5 := y5) (f := f) (d := s) (c := aN (rw v) 75) (bd := aN (rw v) 76) (p := psN (rw v) 0 k1 (nI s)) (h := aN (rw v) k1) e75 e76 (by omega) b4 b6 (by omega) eh.2 (mT + 1) hmT
  unfold bL_wouldDot_126
  dsimp only
  rw [if_neg hy, pulse_0 G.1 hk h1 h2, eh0, ew]
  unfold tL_wouldDot_154 tL_wouldDot_J196
  dsimp only
  rw [dark_L (p := aN (rw v) 81) e81 b7, nI_add]
  unfold dkB
  by_cases q : dkN (aN (rw v) 81) ≤ coolN (aN (rw v) 75) (wN (aN (rw v) 75) (aN (rw v) 76 - psN (rw v) 0 k1 (nI s)) (aN (rw v) k1)) (aN (rw v) k1) + psN (rw v) 0 k1 (nI s)
  · rw [if_pos (nI_le q (by omega)), if_pos (decide_eq_true q)]
  · rw [if_neg (nI_ge (Nat.not_le.mp q) (Nat.lt_trans dk_lt (by omega))), if_neg (fun z => q (of_decide_eq_true z))]
theorem d126_x {x : HV} {v : SV} {k1 s : Nat} {f2 : Nat → Int32} {x2 y5 : Int32} {f : Nat → Int32} {y : Int32} (hy : 0 ≤ y) : bL_wouldDot_126 x v f2 k1 x2 y5 f s y = Sum.inr y := by
  unfold bL_wouldDot_126
  exact if_pos hy
theorem least_n {x : HV} {v : SV} {B k1 : Nat} {f2 : Nat → Int32} {x2 y5 : Int32} {f : Nat → Int32} (R : RelS (x 0) (rw v)) (G : Gd B (rw v)) (hk : k1 < 24) (n : Nat) : ∀ i, i + n = 301 → 50 ≤ i →
    Sum.elim id id (lpR n i (bL_wouldDot_126 x v f2 k1 x2 y5 f) (-1)) = Sum.elim (tX2_leastDarkSetting_16 (x 0) (nI k1)) id (lpR n i (bX2_leastDarkSetting_16 (x 0) (nI k1)) ()) := by
  induction n with
  | zero => intro i h1 h2; rfl
  | succ n ih =>
    intro i h1 h2
    have e1 := d126_e (x := x) (f2 := f2) (x2 := x2) (y5 := y5) (f := f) (s := i) G hk h2 (by omega) (y := -1) (by decide)
    have e2 : bX2_leastDarkSetting_16 (x 0) (nI k1) i () = if dkB (rw v) k1 i then Sum.inr (nI i) else Sum.inl () := by
      unfold bX2_leastDarkSetting_16
      rw [dkB_2 G R hk h2 (by omega)]
      cases dkB (rw v) k1 i with
      | false => rfl
      | true => rfl
    cases q : dkB (rw v) k1 i with
    | false =>
      rw [q] at e1 e2
      have e1 : bL_wouldDot_126 x v f2 k1 x2 y5 f i (-1) = Sum.inl (-1) := e1
      have e2 : bX2_leastDarkSetting_16 (x 0) (nI k1) i () = Sum.inl () := e2
      rw [lpR, lpR, e1, e2]
      exact ih (i + 1) (by omega) (by omega)
    | true =>
      rw [q] at e1 e2
      have e1 : bL_wouldDot_126 x v f2 k1 x2 y5 f i (-1) = Sum.inl (nI i) := e1
      have e2 : bX2_leastDarkSetting_16 (x 0) (nI k1) i () = Sum.inr (nI i) := e2
      have k : ∀ (m j : Nat), Sum.elim id id (lpR m j (bL_wouldDot_126 x v f2 k1 x2 y5 f) (nI i)) = nI i := by
        intro m j
        cases m with
        | zero => rfl
        | succ m =>
          have e3 := d126_x (x := x) (v := v) (k1 := k1) (s := j) (f2 := f2) (x2 := x2) (y5 := y5) (f := f) (y := nI i) (nI_nn (by omega))
          rw [lpR, e3]
          rfl
      rw [lpR, lpR, e1, e2]
      exact k n (i + 1)
theorem elim_t {α β : Type} (t : α → β) (z : α ⊕ α) : Sum.elim t t z = t (Sum.elim id id z) := by cases z <;> rfl
theorem wouldDot_1 {x : HV} {v : SV} {B k1 m : Nat} {f2 : Nat → Int32} (R : RLw B x v) (hk : k1 < 24) (hm : m ≤ 900) : (fL_wouldDot x v f2 k1 (nI m)).2 = 1 := by
  obtain ⟨R, G, -⟩ := R
  obtain ⟨-, ⟨e75, b3, b4⟩, -⟩ := SI_n G.1
  have hmT : 1000 ≤ mT + 3 := by have : mT = 2147483648 := rfl; omega
  have hho := hoN_le G
  have hT := wN_le (aN (rw v) 75) m (hoN (rw v))
  obtain ⟨d0, hd0, hm0⟩ := mxN_at (aN (rw v)) 24 (by omega)
  have hh : ∀ d, (fun d => if d < 24 then aN (rw v) d else 0) d ≤ 900 := fun d => by
    show (if d < 24 then aN (rw v) d else 0) ≤ 900
    split
    · rename_i hd; exact (G.2.1 d hd).2
    · omega
  have ec := cool18 (x := x) (v := v) (f2 := f2) (k1 := k1) (c := aN (rw v) 75) (m := m) (T := wN (aN (rw v) 75) m (hoN (rw v))) (h := fun d => if d < 24 then aN (rw v) d else 0) e75 (by omega) b4 hm hh (by omega)
    (fun i hi => ⟨d0, hd0, by
      show m < coolN _ i (if d0 < 24 then aN (rw v) d0 else 0)
      rw [if_pos hd0, hm0]
      exact Nat.not_le.mp (fun q => Nat.not_le.mpr hi (wN_c.mp q))⟩)
    (fun d hd => by
      show coolN _ _ (if d < 24 then aN (rw v) d else 0) ≤ m
      rw [if_pos hd]
      exact Nat.le_trans (coolN_m _ (by omega) _ _ _ (mxN_ge 24 hd rfl)) (wN_c.mpr (Nat.le_refl _)))
    (f := fL_copy 24 (v 0) 24 f2) (fun d hd => by
      show _ = nI (if d < 24 then aN (rw v) d else 0)
      rw [copy_v 24 24 _ _ (by omega) d hd, if_pos hd, ← (G.2.1 d hd).1, rw_h hd]) (mT + 3) hmT
  have k1' : fX5_coolIn x (nI m) = nI (wN (aN (rw v) 75) m (hoN (rw v))) := by
    show fX2_timeDownTo (x 0) (fX2_hottestDot (x 0)) (nI m) = _
    rw [hottestDot_2 G R.1]
    exact timeDownTo_n ((R.2.2.2.2.1 1 (by omega)).trans e75) (by omega) (by omega) hho (by omega)
  have k2 : ∀ (y5 : Int32) (f : Nat → Int32), Sum.elim id id (lpR 251 50 (bL_wouldDot_126 x v f2 k1 (nI m) y5 f) (-1)) = fX5_darkFrom x (nI k1) := fun y5 f => least_n R G hk 251 50 rfl (by omega)
  unfold fL_wouldDot tL_wouldDot_18
  dsimp only
  rw [ec, elim_t, k2]
  unfold tL_wouldDot_126
  dsimp only
  rw [if_pos k1', if_pos rfl]
