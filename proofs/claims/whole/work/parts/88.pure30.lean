/-! a part of a text *)-/
section PD
variable {c : Nat → Int32} {l : Nat}
theorem end_dn {m w k kd ds dd p nm x : Int32} (j : Nat) : Dn c l (mkR 5 m w k kd ds dd p nm x) j := by
  refine ⟨rfl, fun _ q => ?_⟩
  unfold fX1_take
  rw [if_neg q]
  dsimp only
  have e : (if mkR 5 m w k kd ds dd p nm x 0 = 0 then ((fX1_takeFirst (mkR 5 m w k kd ds dd p nm x) (c j)).1, (fX1_takeFirst (mkR 5 m w k kd ds dd p nm x) (c j)).2) else if mkR 5 m w k kd ds dd p nm x 0 = 1 then ((fX1_takeOfWord (mkR 5 m w k kd ds dd p nm x) (c j)).1, (fX1_takeOfWord (mkR 5 m w k kd ds dd p nm x) (c j)).2) else if mkR 5 m w k kd ds dd p nm x 0 = 2 then ((fX1_takeOfDots (mkR 5 m w k kd ds dd p nm x) (c j)).1, (fX1_takeOfDots (mkR 5 m w k kd ds dd p nm x) (c j)).2) else if mkR 5 m w k kd ds dd p nm x 0 = 3 then ((fX1_takeFirstOfPaper (mkR 5 m w k kd ds dd p nm x) (c j)).1, (fX1_takeFirstOfPaper (mkR 5 m w k kd ds dd p nm x) (c j)).2) else if mkR 5 m w k kd ds dd p nm x 0 = 4 then ((fX1_takeDigit (mkR 5 m w k kd ds dd p nm x) (c j)).1, (fX1_takeDigit (mkR 5 m w k kd ds dd p nm x) (c j)).2) else (mkR 5 m w k kd ds dd p nm x, (0 : Int32))) = (mkR 5 m w k kd ds dd p nm x, 0) :=
    (if_neg (show ¬ (5 : Int32) = 0 by decide)).trans ((if_neg (show ¬ (5 : Int32) = 1 by decide)).trans ((if_neg (show ¬ (5 : Int32) = 2 by decide)).trans ((if_neg (show ¬ (5 : Int32) = 3 by decide)).trans (if_neg (show ¬ (5 : Int32) = 4 by decide)))))
  rw [e]
theorem first_take {m w k p x : Int32} (code : Int32) : fX1_take (mkR 0 m w k 0 0 0 p 0 x) code = if code = 101 then (mkR 1 5 (nI 4) (nI 1) 4 0 0 p 0 x, 1) else if code = 108 then (mkR 1 2 (nI 1) (nI 1) 1 0 0 p 0 x, 1) else if code = 112 then (mkR 1 3 (nI 2) (nI 1) 2 0 0 p 0 x, 1) else if code = 114 then (mkR 1 4 (nI 3) (nI 1) 3 0 0 p 0 999, 1) else (mkR 0 m w k 0 0 0 p 0 x, 0) := by
  by_cases h : code = 59
  · subst h
    rw [if_neg (by decide), if_neg (by decide), if_neg (by decide), if_neg (by decide)]
    exact tb_no rfl
  · have e1 : fX1_take (mkR 0 m w k 0 0 0 p 0 x) code = fX1_takeFirst (mkR 0 m w k 0 0 0 p 0 x) code := by
      unfold fX1_take
      rw [if_neg h]
      dsimp only
      refine (if_pos (show (0 : Int32) = 0 from rfl)).trans ?_
      exact pe _
    rw [e1]
    unfold fX1_takeFirst
    by_cases h1 : code = 101
    · rw [if_pos h1, if_pos h1]
      rfl
    · rw [if_neg h1, if_neg h1]
      by_cases h2 : code = 108
      · rw [if_pos h2, if_pos h2]
        rfl
      · rw [if_neg h2, if_neg h2]
        by_cases h3 : code = 112
        · rw [if_pos h3, if_pos h3]
          rfl
        · rw [if_neg h3, if_neg h3]
          by_cases h4 : code = 114
          · rw [if_pos h4, if_pos h4]
            rfl
          · rw [if_neg h4, if_neg h4]
theorem pap_take {m w k p x : Int32} (code : Int32) : fX1_take (mkR 3 m w k 2 0 0 p 0 x) code = if code = 102 then (mkR 1 5 (nI 6) (nI 1) 2 0 0 1 0 x, 1) else if code = 108 then (mkR 1 5 (nI 7) (nI 1) 2 0 0 2 0 x, 1) else if code = 112 then (mkR 1 5 (nI 5) (nI 1) 2 0 0 0 0 x, 1) else (mkR 3 m w k 2 0 0 p 0 x, 0) := by
  by_cases h : code = 59
  · subst h
    rw [if_neg (by decide), if_neg (by decide), if_neg (by decide)]
    exact tb_no rfl
  · have e1 : fX1_take (mkR 3 m w k 2 0 0 p 0 x) code = fX1_takeFirstOfPaper (mkR 3 m w k 2 0 0 p 0 x) code := by
      unfold fX1_take
      rw [if_neg h]
      dsimp only
      refine (if_neg (show ¬ (3 : Int32) = 0 by decide)).trans ((if_neg (show ¬ (3 : Int32) = 1 by decide)).trans ((if_neg (show ¬ (3 : Int32) = 2 by decide)).trans ((if_pos (show (3 : Int32) = 3 from rfl)).trans ?_)))
      exact pe _
    rw [e1]
    unfold fX1_takeFirstOfPaper
    by_cases h1 : code = 102
    · rw [if_pos h1, if_pos h1]
      rfl
    · rw [if_neg h1, if_neg h1]
      by_cases h2 : code = 108
      · rw [if_pos h2, if_pos h2]
        rfl
      · rw [if_neg h2, if_neg h2]
        by_cases h3 : code = 112
        · rw [if_pos h3, if_pos h3]
          rfl
        · rw [if_neg h3, if_neg h3]
/-- a first sign that is taken, or isn't -/
theorem sgn_sync {v : SV} {b n : Nat} {r0 r r' : Nat → Int32} {a : Int32} (hl : l ≤ 60) (ha : ¬ a = 0) (ha2 : ¬ a = 59) (hr : fX1_take r a = (r', 1)) (hT : Tk c b r0 n r) (h : At c l v (b + n)) {u : SV × Int32} (hu : u = fX6_takes v a) : FR7 v u.1 ∧ ((u.2 = 1 ∧ Tk c b r0 (n + 1) r' ∧ At c l u.1 (b + (n + 1))) ∨ (u.2 = 0 ∧ ¬ cx c l (b + n) = a ∧ At c l u.1 (b + n))) := by
  obtain ⟨f, g⟩ := takes_at hl h ha hu
  refine ⟨f, ?_⟩
  rcases g with ⟨g1, g2, g3, g4⟩ | ⟨g1, g2, g3⟩
  · have hc : c (b + n) = a := by
      have : cx c l (b + n) = c (b + n) := if_pos g2
      rw [← this, g1]
    exact Or.inl ⟨g3, ⟨r, hT, by rw [hc]; exact ha2, by rw [hc, hr]⟩, g4⟩
  · exact Or.inr ⟨g2, g1, g3⟩
theorem stk_of {r : Nat → Int32} {j : Nat} (hj : j ≤ l) (h0 : fX1_isComplete r = 0) (h : j < l → (fX1_take r (c j)).2 = 0) : Stk c l r j := by
  by_cases q : j < l
  · exact Or.inl ⟨q, h q⟩
  · exact Or.inr ⟨by omega, h0⟩
/-- a word to its end, and what it tells -/
theorem word_end {v v0 : SV} {b n w : Nat} {r0 : Nat → Int32} {kd ds dd p nm x a1 a2 a3 a4 K W T : Int32} (hl : l ≤ 60) (hw : w < 8) (hlen : wl w = 4 ∨ wl w = 5) (h1 : a1 = wc w 1) (h2 : a2 = wc w 2) (h3 : a3 = wc w 3) (h4 : (wl w = 4 ∧ a4 = 0) ∨ (wl w = 5 ∧ a4 = wc w 4)) (hT : Tk c b r0 n (mkR 1 5 (nI w) (nI 1) kd ds dd p nm x)) (h : At c l v (b + n)) (f0 : FR7 v0 v) (hP : ∀ z, PartOk (mkR 5 5 (nI w) z kd ds dd p nm x) K W T) :
    Rd c l b r0 v0 (if (fX6_takesFour v a1 a2 a3 a4).2 = 0 then ((fX6_takesFour v a1 a2 a3 a4).1, 0) else if (fX6_addPart (fX6_takesFour v a1 a2 a3 a4).1 K W T).2 = 0 then ((fX6_addPart (fX6_takesFour v a1 a2 a3 a4).1 K W T).1, 0) else ((fX6_addPart (fX6_takesFour v a1 a2 a3 a4).1 K W T).1, 1)) := by
  obtain ⟨u, eu⟩ : ∃ u, u = fX6_takesFour v a1 a2 a3 a4 := ⟨_, rfl⟩
  obtain ⟨f, g⟩ := four_sync (k := 1) hl hw h1 h2 h3 (h4.imp (fun q => ⟨by omega, q.2⟩) (fun q => ⟨by omega, q.2⟩)) hT h eu
  rw [← eu]
  rcases g with ⟨g1, d, d1, d2, T1, A1⟩ | g
  · rw [g1, if_neg one_ne, if01 (Or.inr rfl)]
    rw [if_pos (by omega)] at T1
    exact Rd.add (f0.tr f) T1 A1 (end_dn _) (hP _) rfl
  · rw [if_pos g.1]
    have e : ((u.1, 0) : SV × Int32) = u := by
      rw [← g.1]
    rw [e]
    exact Rd.bad (f0.tr f) g
theorem paper_sync {v : SV} {b n : Nat} {r0 : Nat → Int32} {m w k p x : Int32} (hl : l ≤ 60) (hT : Tk c b r0 n (mkR 3 m w k 2 0 0 p 0 x)) (hA : At c l v (b + n)) {u : SV × Int32} (hu : u = fX6_readPaper v) : Rd c l b r0 v u := by
  obtain ⟨t1, e1⟩ : ∃ t, t = fX6_takes v 112 := ⟨_, rfl⟩
  obtain ⟨f1, g1⟩ := sgn_sync (r' := mkR 1 5 (nI 5) (nI 1) 2 0 0 0 0 x) hl (by decide) (by decide) ((pap_take 112).trans rfl) hT hA e1
  have ue : u = if t1.2 = 0 then (if (fX6_takes t1.1 102).2 = 0 then (if (fX6_takes (fX6_takes t1.1 102).1 108).2 = 0 then ((fX6_takes (fX6_takes t1.1 102).1 108).1, 0) else (if (fX6_takesFour (fX6_takes (fX6_takes t1.1 102).1 108).1 97 98 101 108).2 = 0 then ((fX6_takesFour (fX6_takes (fX6_takes t1.1 102).1 108).1 97 98 101 108).1, 0) else if (fX6_addPart (fX6_takesFour (fX6_takes (fX6_takes t1.1 102).1 108).1 97 98 101 108).1 1 2 0).2 = 0 then ((fX6_addPart (fX6_takesFour (fX6_takes (fX6_takes t1.1 102).1 108).1 97 98 101 108).1 1 2 0).1, 0) else ((fX6_addPart (fX6_takesFour (fX6_takes (fX6_takes t1.1 102).1 108).1 97 98 101 108).1 1 2 0).1, 1)))
      else (if (fX6_takesFour (fX6_takes t1.1 102).1 105 110 101 0).2 = 0 then ((fX6_takesFour (fX6_takes t1.1 102).1 105 110 101 0).1, 0) else if (fX6_addPart (fX6_takesFour (fX6_takes t1.1 102).1 105 110 101 0).1 1 1 0).2 = 0 then ((fX6_addPart (fX6_takesFour (fX6_takes t1.1 102).1 105 110 101 0).1 1 1 0).1, 0) else ((fX6_addPart (fX6_takesFour (fX6_takes t1.1 102).1 105 110 101 0).1 1 1 0).1, 1)))
      else (if (fX6_takesFour t1.1 108 97 105 110).2 = 0 then ((fX6_takesFour t1.1 108 97 105 110).1, 0) else if (fX6_addPart (fX6_takesFour t1.1 108 97 105 110).1 1 0 0).2 = 0 then ((fX6_addPart (fX6_takesFour t1.1 108 97 105 110).1 1 0 0).1, 0) else ((fX6_addPart (fX6_takesFour t1.1 108 97 105 110).1 1 0 0).1, 1)) := by
    rw [hu, e1]
    rfl
  rw [ue]
  rcases g1 with ⟨g1, T1, A1⟩ | ⟨g1, n1, A1⟩
  · rw [g1, if_neg one_ne]
    exact word_end hl (w := 5) (by omega) (Or.inr (by decide)) (by decide +kernel) (by decide +kernel) (by decide +kernel) (Or.inr ⟨by decide, by decide +kernel⟩) T1 A1 f1 (fun z => Or.inr (Or.inl ⟨rfl, rfl, 0, by omega, nI_0.symm, nI_0.symm⟩))
  · rw [g1, if_pos rfl]
    obtain ⟨t2, e2⟩ : ∃ t, t = fX6_takes t1.1 102 := ⟨_, rfl⟩
    obtain ⟨f2, g2⟩ := sgn_sync (r' := mkR 1 5 (nI 6) (nI 1) 2 0 0 1 0 x) hl (by decide) (by decide) ((pap_take 102).trans rfl) hT A1 e2
    rw [← e2]
    rcases g2 with ⟨g2, T2, A2⟩ | ⟨g2, n2, A2⟩
    · rw [g2, if_neg one_ne]
      exact word_end hl (w := 6) (by omega) (Or.inl (by decide)) (by decide +kernel) (by decide +kernel) (by decide +kernel) (Or.inl ⟨by decide, rfl⟩) T2 A2 (f1.tr f2) (fun z => Or.inr (Or.inl ⟨rfl, rfl, 1, by omega, rfl, rfl⟩))
    · rw [g2, if_pos rfl]
      obtain ⟨t3, e3⟩ : ∃ t, t = fX6_takes t2.1 108 := ⟨_, rfl⟩
      obtain ⟨f3, g3⟩ := sgn_sync (r' := mkR 1 5 (nI 7) (nI 1) 2 0 0 2 0 x) hl (by decide) (by decide) ((pap_take 108).trans rfl) hT A2 e3
      rw [← e3]
      rcases g3 with ⟨g3, T3, A3⟩ | ⟨g3, n3, A3⟩
      · rw [g3, if_neg one_ne]
        exact word_end hl (w := 7) (by omega) (Or.inr (by decide)) (by decide +kernel) (by decide +kernel) (by decide +kernel) (Or.inr ⟨by decide, by decide +kernel⟩) T3 A3 ((f1.tr f2).tr f3) (fun z => Or.inr (Or.inl ⟨rfl, rfl, 2, by omega, rfl, rfl⟩))
      · rw [g3, if_pos rfl]
        refine Rd.bad ((f1.tr f2).tr f3) ⟨rfl, n, _, hT, A3, stk_of A3.2.2.2 rfl (fun q => ?_)⟩
        have ecx : cx c l (b + n) = c (b + n) := if_pos q
        rw [ecx] at n1 n2 n3
        rw [pap_take, if_neg n2, if_neg n3, if_neg n1]
theorem part_sync {v : SV} {b : Nat} {m w k p x : Int32} (hl : l ≤ 60) (hc : okC c l) (hA : At c l v b) {u : SV × Int32} (hu : u = fX6_readPart v) : Rd c l b (mkR 0 m w k 0 0 0 p 0 x) v u := by
  have hT : Tk c b (mkR 0 m w k 0 0 0 p 0 x) 0 (mkR 0 m w k 0 0 0 p 0 x) := rfl
  have hA : At c l v (b + 0) := hA
  obtain ⟨t1, e1⟩ : ∃ t, t = fX6_takes v 108 := ⟨_, rfl⟩
  obtain ⟨f1, g1⟩ := sgn_sync (r' := mkR 1 2 (nI 1) (nI 1) 1 0 0 p 0 x) hl (by decide) (by decide) ((first_take 108).trans rfl) hT hA e1
  have w01 : ∀ z : SV × Int32, (z.2 = 0 ∨ z.2 = 1) → (if z.2 = 0 then (z.1, (0 : Int32)) else (z.1, 1)) = z := fun z hz => if01 hz
  rcases g1 with ⟨g1, T1, A1⟩ | ⟨g1, n1, A1⟩
  · -- line
    obtain ⟨t, et⟩ : ∃ t, t = fX6_takesFour t1.1 105 110 101 0 := ⟨_, rfl⟩
    have ue : u = if t.2 = 0 then (t.1, 0) else if (fX6_readLine t.1).2 = 0 then ((fX6_readLine t.1).1, 0) else ((fX6_readLine t.1).1, 1) := by
      rw [hu]
      unfold fX6_readPart
      dsimp only
      rw [← e1, g1, if_neg one_ne, ← et]
    obtain ⟨f, g⟩ := four_sync (w := 1) (k := 1) hl (by omega) (by decide +kernel) (by decide +kernel) (by decide +kernel) (Or.inl ⟨by decide, rfl⟩) T1 A1 et
    rcases g with ⟨g, d, d1, d2, T2, A2⟩ | g
    · have hd : d = 3 := d2.mp (by decide)
      subst hd
      rw [if_pos (by decide)] at T2
      have S := line_sync hl hc T2 A2 rfl
      rw [g, if_neg one_ne, if01 S.b01] at ue
      rw [ue]
      exact Rd.from (f1.tr f) S
    · rw [if_pos g.1] at ue
      rw [ue, show ((t.1, 0) : SV × Int32) = t by rw [← g.1]]
      exact Rd.bad (f1.tr f) g
  · obtain ⟨t2, e2⟩ : ∃ t, t = fX6_takes t1.1 112 := ⟨_, rfl⟩
    obtain ⟨f2, g2⟩ := sgn_sync (r' := mkR 1 3 (nI 2) (nI 1) 2 0 0 p 0 x) hl (by decide) (by decide) ((first_take 112).trans rfl) hT A1 e2
    rcases g2 with ⟨g2, T2, A2⟩ | ⟨g2, n2, A2⟩
    · -- paper
      obtain ⟨t, et⟩ : ∃ t, t = fX6_takesFour t2.1 97 112 101 114 := ⟨_, rfl⟩
      obtain ⟨y, ey⟩ : ∃ y, y = fX6_takes t.1 58 := ⟨_, rfl⟩
      have ue : u = if t.2 = 0 then (t.1, 0) else if y.2 = 0 then (y.1, 0) else if (fX6_readPaper y.1).2 = 0 then ((fX6_readPaper y.1).1, 0) else ((fX6_readPaper y.1).1, 1) := by
        rw [hu]
        unfold fX6_readPart
        dsimp only
        rw [← e1, g1, if_pos rfl, ← e2, g2, if_neg one_ne, ← et, ← ey]
      obtain ⟨f, g⟩ := four_sync (w := 2) (k := 1) hl (by omega) (by decide +kernel) (by decide +kernel) (by decide +kernel) (Or.inr ⟨by decide, by decide +kernel⟩) T2 A2 et
      rcases g with ⟨g, d, d1, d2, T3, A3⟩ | g
      · have hd : d = 4 := by
          rcases d1 with d1 | d1
          · exact absurd (d2.mpr d1) (by decide)
          · exact d1
        subst hd
        rw [if_neg (by decide)] at T3
        obtain ⟨fy, gy⟩ := word_sync (w := 2) (k := 5) hl (by omega) (by decide) (by decide +kernel) T3 A3 ey
        rcases gy with ⟨gy, T4, A4⟩ | ⟨gy, A4, S4⟩
        · rw [if_pos (by decide)] at T4
          have S := paper_sync hl T4 A4 rfl
          rw [g, if_neg one_ne, gy, if_neg one_ne, if01 S.b01] at ue
          rw [ue]
          exact Rd.from (((f1.tr f2).tr f).tr fy) S
        · rw [g, if_neg one_ne, gy, if_pos rfl] at ue
          rw [ue]
          exact Rd.bad (((f1.tr f2).tr f).tr fy) ⟨rfl, _, _, T3, A4, S4⟩
      · rw [if_pos g.1] at ue
        rw [ue, show ((t.1, 0) : SV × Int32) = t by rw [← g.1]]
        exact Rd.bad ((f1.tr f2).tr f) g
    · obtain ⟨t3, e3⟩ : ∃ t, t = fX6_takes t2.1 114 := ⟨_, rfl⟩
      obtain ⟨f3, g3⟩ := sgn_sync (r' := mkR 1 4 (nI 3) (nI 1) 3 0 0 p 0 999) hl (by decide) (by decide) ((first_take 114).trans rfl) hT A2 e3
      rcases g3 with ⟨g3, T3, A3⟩ | ⟨g3, n3, A3⟩
      · -- rest
        obtain ⟨t, et⟩ : ∃ t, t = fX6_takesFour t3.1 101 115 116 0 := ⟨_, rfl⟩
        have ue : u = if t.2 = 0 then (t.1, 0) else if (fX6_readRest t.1).2 = 0 then ((fX6_readRest t.1).1, 0) else ((fX6_readRest t.1).1, 1) := by
          rw [hu]
          unfold fX6_readPart
          dsimp only
          rw [← e1, g1, if_pos rfl, ← e2, g2, if_pos rfl, ← e3, g3, if_neg one_ne, ← et]
        obtain ⟨f, g⟩ := four_sync (w := 3) (k := 1) hl (by omega) (by decide +kernel) (by decide +kernel) (by decide +kernel) (Or.inl ⟨by decide, rfl⟩) T3 A3 et
        rcases g with ⟨g, d, d1, d2, T4, A4⟩ | g
        · have hd : d = 3 := d2.mp (by decide)
          subst hd
          rw [if_pos (by decide)] at T4
          have S := rest_sync hl hc T4 A4 rfl
          rw [g, if_neg one_ne, if01 S.b01] at ue
          rw [ue]
          exact Rd.from (((f1.tr f2).tr f3).tr f) S
        · rw [if_pos g.1] at ue
          rw [ue, show ((t.1, 0) : SV × Int32) = t by rw [← g.1]]
          exact Rd.bad (((f1.tr f2).tr f3).tr f) g
      · obtain ⟨t4, e4⟩ : ∃ t, t = fX6_takes t3.1 101 := ⟨_, rfl⟩
        obtain ⟨f4, g4⟩ := sgn_sync (r' := mkR 1 5 (nI 4) (nI 1) 4 0 0 p 0 x) hl (by decide) (by decide) ((first_take 101).trans rfl) hT A3 e4
        rcases g4 with ⟨g4, T4, A4⟩ | ⟨g4, n4, A4⟩
        · -- empty
          have ue : u = if (fX6_takesFour t4.1 109 112 116 121).2 = 0 then ((fX6_takesFour t4.1 109 112 116 121).1, 0) else if (fX6_addPart (fX6_takesFour t4.1 109 112 116 121).1 0 0 1).2 = 0 then ((fX6_addPart (fX6_takesFour t4.1 109 112 116 121).1 0 0 1).1, 0) else ((fX6_addPart (fX6_takesFour t4.1 109 112 116 121).1 0 0 1).1, 1) := by
            rw [hu]
            unfold fX6_readPart
            dsimp only
            rw [← e1, g1, if_pos rfl, ← e2, g2, if_pos rfl, ← e3, g3, if_pos rfl, ← e4, g4, if_neg one_ne]
          rw [ue]
          exact word_end hl (w := 4) (by omega) (Or.inr (by decide)) (by decide +kernel) (by decide +kernel) (by decide +kernel) (Or.inr ⟨by decide, by decide +kernel⟩) T4 A4 (((f1.tr f2).tr f3).tr f4) (fun z => Or.inr (Or.inr (Or.inr ⟨rfl, rfl, rfl, rfl⟩)))
        · have ue : u = (t4.1, 0) := by
            rw [hu]
            unfold fX6_readPart
            dsimp only
            rw [← e1, g1, if_pos rfl, ← e2, g2, if_pos rfl, ← e3, g3, if_pos rfl, ← e4, g4, if_pos rfl]
          rw [ue]
          refine Rd.bad (((f1.tr f2).tr f3).tr f4) ⟨rfl, 0, _, hT, A4, stk_of A4.2.2.2 rfl (fun q => ?_)⟩
          have ecx : cx c l (b + 0) = c (b + 0) := if_pos q
          rw [ecx] at n1 n2 n3 n4
          rw [first_take, if_neg n4, if_neg n1, if_neg n2, if_neg n3]
end PD
