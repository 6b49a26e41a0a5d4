/-! a part of a line: the wait -/
theorem pulse_n {v : SV} {X d : Nat} (hI : SI (rw v)) (hd : d < 24) : fL_pulse v (nI X) (nI d) (v 4 0) = nI (pN (rw v) X d) := by
  have hI2 := hI
  obtain ⟨-, -, -, -, -, -, -, p, hp, e⟩ := hI2
  rw [pulse_L (v := v) (p := p) e hp _ _ hd]
  show plI (rw v 81) (rw v 24) (rw v 25) (nI X) (nI d) (rw v 74) = _
  exact (pN_spec hI X d).1
theorem bit_n1 {X d : Nat} (hX : X < 2 ^ 31) (hd : d < 24) : ((nI X >>> (nI d &&& 31)) &&& 1 = 1) ↔ X.testBit d = true := by
  rw [← bitOf_d _ hd, bitOf_nI hX hd]
  exact nb_1 _
theorem mbr_e {r : Nat → Int32} {X k d : Nat} : mbr r X k d = (X.testBit d && decide (prt (aN r 79) (ptN r X) (aoN r) X d = k)) := rfl
theorem mbr_t {r : Nat → Int32} {X k d : Nat} (h : X.testBit d = true) (e : prt (aN r 79) (ptN r X) (aoN r) X d = k) : mbr r X k d = true := by rw [mbr_e, h, decide_eq_true e]; rfl
theorem mbr_f1 {r : Nat → Int32} {X k d : Nat} (h : ¬ X.testBit d = true) : ¬ mbr r X k d = true := by
  rw [mbr_e, eq_false_of_ne_true h, Bool.false_and]
  decide
theorem mbr_f2 {r : Nat → Int32} {X k d : Nat} (e : ¬ prt (aN r 79) (ptN r X) (aoN r) X d = k) : ¬ mbr r X k d = true := by
  rw [mbr_e, decide_eq_false e, Bool.and_false]
  decide
/-- the settings are the same -/
def SE (r : Nat → Int32) (w : SV) : Prop := (∀ i, i < 7 → w 4 i = r (74 + i)) ∧ w 4 7 = r 81 ∧ w 4 13 = r 24 ∧ w 4 14 = r 25
theorem SE_SI {r : Nat → Int32} {w : SV} (h : SE r w) (hI : SI r) : SI (rw w) := by
  have e : ∀ k, 74 ≤ k → k ≤ 81 → rw w k = r k := by
    intro k h1 h2
    by_cases z : k = 81
    · subst z; exact h.2.1
    · obtain ⟨i, rfl⟩ : ∃ i, k = 74 + i := ⟨k - 74, by omega⟩
      rw [rw_s (by omega)]
      exact h.1 i (by omega)
  exact SI_congr e hI
theorem SE_e {r : Nat → Int32} {w : SV} (h : SE r w) : aN (rw w) 75 = aN r 75 ∧ aN (rw w) 76 = aN r 76 ∧ aN (rw w) 79 = aN r 79 ∧ (∀ X, ptN (rw w) X = ptN r X) ∧ aoN (rw w) = aoN r ∧ (∀ X d, pN (rw w) X d = pN r X d) ∧ aN (rw w) 81 = aN r 81 := by
  have e : ∀ i, i < 7 → rw w (74 + i) = r (74 + i) := fun i hi => (rw_s hi).trans (h.1 i hi)
  have e8 : rw w 81 = r 81 := h.2.1
  have p := fun X => ptN_congr (e 3 (by omega)) (e 4 (by omega)) X
  exact ⟨aN_e (e 1 (by omega)), aN_e (e 2 (by omega)), aN_e (e 5 (by omega)), fun X => (p X).2, (p 0).1, fun X d => pN_congr h.2.2.1 h.2.2.2 (e 0 (by omega)) e8 X d, aN_e e8⟩
theorem partOf_e {r : Nat → Int32} {w : SV} {X d : Nat} (hI : SI r) (h : SE r w) (hX : X < 2 ^ 24) (hd : d < 24) (hb : X.testBit d = true) : fL_partOf w (nI X) (nI d) = nI (prt (aN r 79) (ptN r X) (aoN r) X d) := by
  obtain ⟨-, -, e1, e2, e3, -⟩ := SE_e h
  rw [partOf_n (SE_SI h hI) hX hd hb, e1, e2, e3]
theorem pulse_e {r : Nat → Int32} {w : SV} {X d : Nat} (hI : SI r) (h : SE r w) (hd : d < 24) : fL_pulse w (nI X) (nI d) (w 4 0) = nI (pN r X d) := by
  rw [pulse_n (SE_SI h hI) hd, (SE_e h).2.2.2.2.2.1]
theorem lt_mx {a b c : Nat} : a < max b c ↔ a < b ∨ a < c := by omega
theorem nW_n {r : Nat → Int32} {w : SV} {X k t : Nat} {h : Nat → Nat} (hI : SI r) (hs : SE r w) (hX : X < 2 ^ 24) (hk : k < ptN r X) (hh : ∀ d, h d ≤ 900) (h0 : ∀ d, d < 24 → w 0 d = nI (coolN (aN r 75) t (h d))) :
    nW w (nI X) k = if t < wtN (aN r 75) (aN r 76) (pN r X) (mbr r X k) h then 1 else 0 := by
  obtain ⟨-, -, ⟨e76, l1, l2⟩, -⟩ := SI_n hI
  have hp := ptN_le hI X
  unfold nW wtN
  refine lpF_0 (fun i s => s = if t < mxN i (mbr r X k) (fun d => wN (aN r 75) (aN r 76 - pN r X d) (h d)) then (1 : Int32) else 0) 24 0 ?_ (by exact (if_neg (Nat.not_lt_zero t)).symm)
  rintro d s hd rfl
  unfold bL_prints_100
  dsimp only
  by_cases q : t < mxN d (mbr r X k) (fun d => wN (aN r 75) (aN r 76 - pN r X d) (h d))
  · rw [if_pos q, if_neg (by decide), if_pos]
    by_cases m : mbr r X k d = true
    · rw [mxN_t m]; exact Nat.lt_of_lt_of_le q (Nat.le_max_left _ _)
    · rw [mxN_f m]; exact q
  · rw [if_neg q, if_pos rfl]
    by_cases b : X.testBit d = true
    · rw [if_pos ((bit_n1 (by omega) hd).mpr b), partOf_e hI hs hX hd b]
      have hlt := pt_lt hI hd b
      by_cases e : prt (aN r 79) (ptN r X) (aoN r) X d = k
      · have m := mbr_t b e
        have hc := coolN_le (aN r 75) t (h d)
        have hh2 := hh d
        obtain ⟨-, p1, p2⟩ := pN_spec hI X d
        rw [e, if_pos rfl, mxN_t m, pulse_e hI hs hd, h0 d hd, nI_add, hs.1 2 (by omega), e76]
        by_cases z : coolN (aN r 75) t (h d) ≤ aN r 76 - pN r X d
        · rw [if_pos (nI_le (by omega) (by omega)), if_neg]
          rw [wN_c] at z
          intro y
          rcases lt_mx.mp y with y | y
          · exact q y
          · omega
        · rw [if_neg (nI_ge (by omega) (by omega)), if_pos]
          rw [wN_c] at z
          exact lt_mx.mpr (Or.inr (Nat.not_le.mp z))
      · have m := mbr_f2 (r := r) (X := X) (k := k) (d := d) e
        rw [if_neg (fun z => e (by have := congrArg Int32.toNatClampNeg z; rw [nI_clamp (by omega), nI_clamp (by omega)] at this; exact this)), mxN_f m, if_neg q]
    · have m := mbr_f1 (r := r) (X := X) (k := k) (d := d) b
      rw [if_neg (fun z => b ((bit_n1 (by omega) hd).mp z)), mxN_f m, if_neg q]
/-- behind t milliseconds of waiting -/
def WT (c : Nat) (h : Nat → Nat) (w0 : SV) (t : Nat) (w : SV) : Prop := (∀ d, d < 24 → w 0 d = nI (coolN c t (h d))) ∧ w 4 8 = w0 4 8 + nI t ∧ w 4 17 = w0 4 17 + nI t ∧ WF w0 w
theorem SE_WF {r : Nat → Int32} {w0 w : SV} (h : SE r w0) (f : WF w0 w) : SE r w := ⟨fun i hi => (f.2.2.2 i (by omega) (by omega)).trans (h.1 i hi), (f.2.2.2 7 (by omega) (by omega)).trans h.2.1, (f.2.2.2 13 (by omega) (by omega)).trans h.2.2.1, (f.2.2.2 14 (by omega) (by omega)).trans h.2.2.2⟩
theorem WT_next {w0 w u : SV} {c i : Nat} {h : Nat → Nat} (cc : TP c (fun d => coolN c i (h d)) w 1 u) (a : WT c h w0 i w) : WT c h w0 (i + 1) (mkL (u 0) (u 1) (u 2) (u 3) (upd (u 4) 17 (u 4 17 + 1))) := by
  obtain ⟨b1, b2, b3, b4⟩ := a
  obtain ⟨c1, c2, c3, c4, c5, c6⟩ := cc
  refine ⟨fun d hd => ?_, ?_, ?_, c3.trans b4.1, c4.trans b4.2.1, c5.trans b4.2.2.1, fun j j1 j2 => ?_⟩
  · show u 0 d = _
    rw [c1 d hd, coolN_s c i]
    rfl
  · show upd (u 4) 17 (u 4 17 + 1) 8 = _
    rw [pk_un (by decide), c2, b2, Int32.add_assoc, nI_add]
  · show upd (u 4) 17 (u 4 17 + 1) 17 = _
    rw [pk_us, c6 17 (by decide), b3, Int32.add_assoc, nI_1]
  · show upd (u 4) 17 (u 4 17 + 1) j = _
    rw [pk_un j2, c6 j j1]
    exact b4.2.2.2 j j1 j2
theorem wt_step {v w0 w : SV} {r : Nat → Int32} {X k i : Nat} {y6 y8 y9 : Int32} {h : Nat → Nat} (hI : SI r) (hs : SE r w0) (hh : ∀ d, h d ≤ 900) (en : nW w (nI X) k = 1) (a : WT (aN r 75) h w0 i w) :
    ∃ w', bL_prints_89 v (nI X) y6 y8 k y9 (1, w) = (true, (1, w')) ∧ WT (aN r 75) h w0 (i + 1) w' := by
  obtain ⟨-, ⟨e75, l1, l2⟩, -⟩ := SI_n hI
  have hsw := SE_WF hs a.2.2.2
  have e := pr89_n v w (nI X) y6 y8 y9 k (y := 1) (by decide)
  rw [en, if_neg (by decide)] at e
  unfold tL_prints_J188 tL_prints_J207 at e
  dsimp only at e
  rw [if_neg (by decide)] at e
  have cc := passes_t (w0 := w) (c := aN r 75) (t := 1) (h := fun d => coolN (aN r 75) i (h d)) (by omega) (by omega) (by omega) (fun d => Nat.lt_of_le_of_lt (coolN_le _ i (h d)) (by have := hh d; omega)) ((hsw.1 1 (by omega)).trans e75) a.1
  rw [show nI 1 = (1 : Int32) from rfl] at cc
  exact ⟨_, e, WT_next cc a⟩
theorem wt_last {v w0 w : SV} {c X k W : Nat} {y6 y8 y9 : Int32} {h : Nat → Nat} (en : nW w (nI X) k = 0) (a : WT c h w0 W w) :
    ∃ w', bL_prints_89 v (nI X) y6 y8 k y9 (1, w) = (true, (0, w')) ∧ WT c h w0 W w' := by
  obtain ⟨b1, b2, b3, b4⟩ := a
  have e := pr89_n v w (nI X) y6 y8 y9 k (y := 1) (by decide)
  rw [en, if_pos rfl] at e
  unfold tL_prints_J188 tL_prints_J207 at e
  dsimp only at e
  rw [if_pos rfl, passes_0] at e
  refine ⟨_, e, b1, ?_, ?_, b4.1, b4.2.1, b4.2.2.1, fun j j1 j2 => ?_⟩
  · show upd (w 4) 17 (w 4 17 + 0) 8 = _
    rw [pk_un (by decide)]
    exact b2
  · show upd (w 4) 17 (w 4 17 + 0) 17 = _
    rw [pk_us, Int32.add_zero]
    exact b3
  · show upd (w 4) 17 (w 4 17 + 0) j = _
    rw [pk_un j2]
    exact b4.2.2.2 j j1 j2
theorem wt_end {v w : SV} {X k : Nat} {y6 y8 y9 : Int32} : bL_prints_89 v (nI X) y6 y8 k y9 (0, w) = (false, (0, w)) := by
  unfold bL_prints_89
  exact if_pos rfl
theorem waits_n {v w0 : SV} {r : Nat → Int32} {X k : Nat} {y6 y8 y9 : Int32} {h : Nat → Nat} (hI : SI r) (hs : SE r w0) (hX : X < 2 ^ 24) (hk : k < ptN r X) (hh : ∀ d, h d ≤ 900) (h0 : ∀ d, d < 24 → w0 0 d = nI (h d)) (N : Nat) (hN : 1000 ≤ N) {z : Int32 × SV} (hz : z = lpB N (bL_prints_89 v (nI X) y6 y8 k y9) (1, w0)) :
    WT (aN r 75) h w0 (wtN (aN r 75) (aN r 76) (pN r X) (mbr r X k) h) z.2 := by
  have hW := wtN_le (c := aN r 75) (bd := aN r 76) (p := pN r X) (m := mbr r X k) hh
  have hen : ∀ (t : Nat) (w : SV), WT (aN r 75) h w0 t w → nW w (nI X) k = if t < wtN (aN r 75) (aN r 76) (pN r X) (mbr r X k) h then 1 else 0 := fun t w a => nW_n (t := t) hI (SE_WF hs a.2.2.2) hX hk hh a.1
  generalize wtN (aN r 75) (aN r 76) (pN r X) (mbr r X k) h = W at hW hen ⊢
  rw [hz]
  refine lpB_ind (Q := fun s : Int32 × SV => WT (aN r 75) h w0 W s.2) (fun i (s : Int32 × SV) => (i ≤ W ∧ s.1 = 1 ∧ WT (aN r 75) h w0 i s.2) ∨ (i = W + 1 ∧ s.1 = 0 ∧ WT (aN r 75) h w0 W s.2)) (W + 1) ?_ ?_ N 0 (1, w0) (Nat.zero_le _) (by omega) (Or.inl ⟨Nat.zero_le _, rfl, h0, by rw [nI_0, Int32.add_zero], by rw [nI_0, Int32.add_zero], WF.rf w0⟩)
  · rintro i ⟨y, w⟩ hi (⟨h1, h2, h3⟩ | ⟨h1, -, -⟩)
    · have h2 : y = 1 := h2
      subst h2
      by_cases q : i < W
      · obtain ⟨w', e, a⟩ := wt_step (v := v) (y6 := y6) (y8 := y8) (y9 := y9) hI hs hh ((hen i w h3).trans (if_pos q)) h3
        rw [e]
        exact ⟨rfl, Or.inl ⟨q, rfl, a⟩⟩
      · have hiW : i = W := by omega
        subst hiW
        obtain ⟨w', e, a⟩ := wt_last (v := v) (y6 := y6) (y8 := y8) (y9 := y9) ((hen i w h3).trans (if_neg q)) h3
        rw [e]
        exact ⟨rfl, Or.inr ⟨rfl, rfl, a⟩⟩
    · omega
  · rintro ⟨y, w⟩ (⟨h1, -, -⟩ | ⟨-, h2, h3⟩)
    · omega
    · have h2 : y = 0 := h2
      subst h2
      rw [wt_end]
      exact ⟨rfl, h3⟩
