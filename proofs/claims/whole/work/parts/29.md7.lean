def fX6_readPaper (v : SV) : SV × Int32 := let r_2 := fX6_takes v 112
  if r_2.2 = 0 then (let r_4 := fX6_takes r_2.1 102
  if r_4.2 = 0 then (let r_6 := fX6_takes r_4.1 108
  if r_6.2 = 0 then ((r_6.1, 0)) else (let r_9 := fX6_takesFour r_6.1 97 98 101 108
  if r_9.2 = 0 then ((r_9.1, 0)) else (let r_12 := fX6_addPart r_9.1 1 2 0
  if r_12.2 = 0 then ((r_12.1, 0)) else ((r_12.1, 1))))) else (let r_16 := fX6_takesFour r_4.1 105 110 101 0
  if r_16.2 = 0 then ((r_16.1, 0)) else (let r_19 := fX6_addPart r_16.1 1 1 0
  if r_19.2 = 0 then ((r_19.1, 0)) else ((r_19.1, 1))))) else (let r_23 := fX6_takesFour r_2.1 108 97 105 110
  if r_23.2 = 0 then ((r_23.1, 0)) else (let r_26 := fX6_addPart r_23.1 1 0 0
  if r_26.2 = 0 then ((r_26.1, 0)) else ((r_26.1, 1))))
def fX6_readRest (v : SV) : SV × Int32 := let r_2 := fX6_readNumber v 999
  if r_2.2 ≤ 0 then ((r_2.1, 0)) else (let r_5 := fX6_addPart r_2.1 2 r_2.2 0
  if r_5.2 = 0 then ((r_5.1, 0)) else ((r_5.1, 1)))
def fX6_readPart (v : SV) : SV × Int32 := let r_2 := fX6_takes v 108
  if r_2.2 = 0 then (let r_4 := fX6_takes r_2.1 112
  if r_4.2 = 0 then (let r_6 := fX6_takes r_4.1 114
  if r_6.2 = 0 then (let r_8 := fX6_takes r_6.1 101
  if r_8.2 = 0 then ((r_8.1, 0)) else (let r_11 := fX6_takesFour r_8.1 109 112 116 121
  if r_11.2 = 0 then ((r_11.1, 0)) else (let r_14 := fX6_addPart r_11.1 0 0 1
  if r_14.2 = 0 then ((r_14.1, 0)) else ((r_14.1, 1))))) else (let r_18 := fX6_takesFour r_6.1 101 115 116 0
  if r_18.2 = 0 then ((r_18.1, 0)) else (let r_21 := fX6_readRest r_18.1
  if r_21.2 = 0 then ((r_21.1, 0)) else ((r_21.1, 1))))) else (let r_25 := fX6_takesFour r_4.1 97 112 101 114
  if r_25.2 = 0 then ((r_25.1, 0)) else (let r_28 := fX6_takes r_25.1 58
  if r_28.2 = 0 then ((r_28.1, 0)) else (let r_31 := fX6_readPaper r_28.1
  if r_31.2 = 0 then ((r_31.1, 0)) else ((r_31.1, 1)))))) else (let r_35 := fX6_takesFour r_2.1 105 110 101 0
  if r_35.2 = 0 then ((r_35.1, 0)) else (let r_38 := fX6_readLine r_35.1
  if r_38.2 = 0 then ((r_38.1, 0)) else ((r_38.1, 1))))
def tX6_arePrints_15 (v : SV) (s : Int32 × SV) : SV × Int32 := let y1_15 := s.1; let v_15 := s.2; if y1_15 = 0 then ((v_15, 0)) else (if (v_15 8 7) = (v_15 8 6) then ((v_15, 1)) else ((v_15, 0)))
def bX6_arePrints_15 (v : SV) (s : Int32 × SV) : Bool × (Int32 × SV) := let y1_15 := s.1; let v_15 := s.2; if y1_15 = 0 then ((false, (y1_15, v_15))) else (let r_10 := fX6_takes v_15 59
  if r_10.2 = 0 then ((false, (y1_15, r_10.1))) else (let r_13 := fX6_readPart r_10.1
  (true, (r_13.2, r_13.1))))
def fX6_arePrints (v : SV) : SV × Int32 := let r_4 := fX6_readPart (mkM (v 0) (v 1) (v 2) (v 3) (v 4) (v 5) (v 6) (v 7) (v 8 0) (v 8 1) (v 8 2) (v 8 3) (v 8 4) (v 8 5) (v 8 6) 0 0)
  tX6_arePrints_15 v (lpB (mR + 1) (bX6_arePrints_15 v) (r_4.2, r_4.1))
def fX6_firstError (v : SV) : SV × Int32 := let r_3 := fX6_arePrints (mkM (v 0) (v 1) (v 2) (v 3) (v 4) (v 5) (v 6) (v 7) (v 8 0) (v 8 1) 0 (v 8 3) (v 8 4) (v 8 5) (v 8 6) (v 8 7) (v 8 8))
  if r_3.2 = 0 then ((r_3.1, r_3.1 8 7)) else ((r_3.1, r_3.1 8 6))
theorem lpR_r {σ ρ : Type} {b : Nat → σ → σ ⊕ ρ} {n d : Nat} {s : σ} {r : ρ} (h : b d s = .inr r) : lpR (n + 1) d b s = .inr r := by
  simp only [lpR, h]
theorem lpR_l {σ ρ : Type} {b : Nat → σ → σ ⊕ ρ} {n d : Nat} {s s' : σ} (h : b d s = .inl s') : lpR (n + 1) d b s = lpR n (d + 1) b s' := by
  simp only [lpR, h]
theorem PB_ap {w u : SV} {k a m : Int32} (e : u = (fX6_addPart w k a m).1) : u 8 7 = w 8 7 ∧ u 8 6 = w 8 6 ∧ u 8 8 = w 8 8 + 1 ∧ (∀ j, j < 5 → u j = w j) ∧ (∀ j, j < 7 → u 8 j = w 8 j) := by
  rw [e]
  refine ⟨rfl, rfl, rfl, fun j hj => ?_, fun k h1 => ?_⟩
  · match j, hj with
    | 0, _ => rfl
    | 1, _ => rfl
    | 2, _ => rfl
    | 3, _ => rfl
    | 4, _ => rfl
    | j + 5, h => exact absurd h (by omega)
  · match k, h1 with
    | 0, _ => rfl
    | 1, _ => rfl
    | 2, _ => rfl
    | 3, _ => rfl
    | 4, _ => rfl
    | 5, _ => rfl
    | 6, _ => rfl
    | k + 7, h => exact absurd h (by omega)
/-- the buffer, the row, the settings and what is saved -/
def FRX (v w : SV) : Prop := (∀ j, j < 5 → w j = v j) ∧ ∀ k, k < 7 → w 8 k = v 8 k
theorem FRX.tr {a b c : SV} (h1 : FRX a b) (h2 : FRX b c) : FRX a c := ⟨fun j hj => (h2.1 j hj).trans (h1.1 j hj), fun k hk => (h2.2 k hk).trans (h1.2 k hk)⟩
theorem FRX.rf (v : SV) : FRX v v := ⟨fun _ _ => rfl, fun _ _ => rfl⟩
theorem FRX.of7 {v w : SV} (h : FR7 v w) : FRX v w := ⟨fun j hj => h.1 j (by omega), fun k hk => h.2 k (by omega) (by omega)⟩
/-- what a reading of a part gives: the start, how far it must have come, the end, its answer -/
def RP (v : SV) (n : Nat) (u : SV) (r : Int32) : Prop := FRX v u ∧ (r = 0 ∨ ∃ w k a m, FR7 v w ∧ BI w ∧ (v 8 7).toNatClampNeg + n ≤ (w 8 7).toNatClampNeg ∧ (k = 1 → ∃ c, c ≤ 2 ∧ a = nI c) ∧ u = (fX6_addPart w k a m).1)
theorem RP.no {v w : SV} (n : Nat) (h : FR7 v w) : RP v n w 0 := ⟨FRX.of7 h, Or.inl rfl⟩
theorem RP.yes {v w : SV} {n : Nat} {k a m r : Int32} (h : FR7 v w) (hB : BI w) (hn : (v 8 7).toNatClampNeg + n ≤ (w 8 7).toNatClampNeg) (hk : k = 1 → ∃ c, c ≤ 2 ∧ a = nI c) : RP v n (fX6_addPart w k a m).1 r := by
  have q := PB_ap (w := w) (k := k) (a := a) (m := m) rfl
  exact ⟨(FRX.of7 h).tr ⟨q.2.2.2.1, q.2.2.2.2⟩, Or.inr ⟨w, k, a, m, h, hB, hn, hk, rfl⟩⟩
theorem RP.from {v w u : SV} {n n2 : Nat} {r : Int32} (h : FR7 v w) (hn : (v 8 7).toNatClampNeg + n2 ≤ (w 8 7).toNatClampNeg) (h2 : RP w n u r) : RP v (n2 + n) u r := by
  refine ⟨(FRX.of7 h).tr h2.1, ?_⟩
  rcases h2.2 with e | ⟨z, k, a, m, q1, q2, q3, q4, q5⟩
  · exact Or.inl e
  · exact Or.inr ⟨z, k, a, m, h.tr q1, q2, by omega, q4, q5⟩
theorem RP.w {v u : SV} {n n2 : Nat} {r : Int32} (h : n2 ≤ n) (h2 : RP v n u r) : RP v n2 u r := by
  refine ⟨h2.1, ?_⟩
  rcases h2.2 with e | ⟨z, k, a, m, q1, q2, q3, q4, q5⟩
  · exact Or.inl e
  · exact Or.inr ⟨z, k, a, m, q1, q2, by omega, q4, q5⟩
theorem RP.nz {v u : SV} {n : Nat} {r r2 : Int32} (hr : ¬ r = 0) (h2 : RP v n u r) : RP v n u r2 := ⟨h2.1, Or.inr (h2.2.resolve_left hr)⟩
theorem rl_step (v : SV) (d : Nat) (y : Int32) (w : SV) (h : BI w) : bX6_readLine_4 v d (y, w) = Sum.inr (w, 0) ∨ ∃ y2 u, bX6_readLine_4 v d (y, w) = Sum.inl (y2, u) ∧ BI u ∧ FR7 w u ∧ (w 8 7).toNatClampNeg ≤ (u 8 7).toNatClampNeg := by
  have inc : ¬ fX6_sign w = 0 → ∀ y2, ∃ y3 u, (Sum.inl (y2, mkM (w 0) (w 1) (w 2) (w 3) (w 4) (w 5) (w 6) (w 7) (w 8 0) (w 8 1) (w 8 2) (w 8 3) (w 8 4) (w 8 5) (w 8 6) (w 8 7 + 1) (w 8 8)) : (Int32 × SV) ⊕ (SV × Int32)) = Sum.inl (y3, u) ∧ BI u ∧ FR7 w u ∧ (w 8 7).toNatClampNeg ≤ (u 8 7).toNatClampNeg := by
    intro k y2
    refine ⟨y2, _, rfl, BI_inc rfl h rfl k rfl rfl, FR7.mk w _, ?_⟩
    show _ ≤ (w 8 7 + 1).toNatClampNeg
    rw [sp_inc' h]; omega
  unfold bX6_readLine_4
  dsimp only
  split
  · split
    · exact Or.inl rfl
    · rename_i k
      split
      · exact Or.inl rfl
      · exact Or.inr (inc (in_ne0 (by decide) k) _)
  · rename_i k
    split
    · exact Or.inl rfl
    · exact Or.inr (inc (in_ne0 (by decide) k) _)
theorem rl_loop (v : SV) (v0 : SV) : ∀ (n d : Nat) (y : Int32) (w : SV), BI w → FR7 v w → (v 8 7).toNatClampNeg ≤ (w 8 7).toNatClampNeg → (∃ u, lpR n d (bX6_readLine_4 v0) (y, w) = Sum.inr (u, 0) ∧ FR7 v u) ∨ ∃ y2 u, lpR n d (bX6_readLine_4 v0) (y, w) = Sum.inl (y2, u) ∧ BI u ∧ FR7 v u ∧ (v 8 7).toNatClampNeg ≤ (u 8 7).toNatClampNeg
  | 0, d, y, w, h, f, c => Or.inr ⟨y, w, rfl, h, f, c⟩
  | n + 1, d, y, w, h, f, c => by
    rcases rl_step v0 d y w h with e | ⟨y2, u, e, h2, f2, c2⟩
    · exact Or.inl ⟨w, lpR_r e, f⟩
    · have i := rl_loop v v0 n (d + 1) y2 u h2 (f.tr f2) (Nat.le_trans c c2)
      have q : lpR (n + 1) d (bX6_readLine_4 v0) (y, w) = lpR n (d + 1) (bX6_readLine_4 v0) (y2, u) := lpR_l e
      rw [q]
      exact i
theorem rl_tail (v y0 : SV) (y : Int32) (h : BI v) : RP v 0 (tX6_readLine_4 y0 (y, v)).1 (tX6_readLine_4 y0 (y, v)).2 := by
  unfold tX6_readLine_4
  dsimp only
  have s1 := takes_spec (a := 42) h (by decide)
  generalize fX6_takes v 42 = r1 at s1 ⊢
  have c1 : (v 8 7).toNatClampNeg + 0 ≤ (r1.1 8 7).toNatClampNeg := by
    rcases s1.2.2 with z | z
    · have := z.2; omega
    · have := z.2; omega
  split
  · split
    · exact RP.yes s1.2.1 s1.1 c1 (fun z => absurd z (by decide))
    · exact RP.yes s1.2.1 s1.1 c1 (fun z => absurd z (by decide))
  · have s2 := rn_spec r1.1 20 s1.1
    generalize fX6_readNumber r1.1 20 = r2 at s2 ⊢
    split
    · exact RP.no 0 (s1.2.1.tr s2.2.1)
    · split
      · exact RP.yes (s1.2.1.tr s2.2.1) s2.1 (by have := s2.2.2; omega) (fun z => absurd z (by decide))
      · exact RP.yes (s1.2.1.tr s2.2.1) s2.1 (by have := s2.2.2; omega) (fun z => absurd z (by decide))
theorem rl_spec (v : SV) (h : BI v) : RP v 0 (fX6_readLine v).1 (fX6_readLine v).2 := by
  unfold fX6_readLine
  rcases rl_loop v v 6 0 0 v h (FR7.rf v) (Nat.le_refl _) with ⟨u, e, f⟩ | ⟨y, u, e, h2, f, c⟩
  · rw [e]; exact RP.no 0 f
  · rw [e]; exact RP.w (Nat.zero_le _) (RP.from (n2 := 0) f (by omega) (rl_tail u v y h2))
theorem pap_spec (v : SV) (h : BI v) : RP v 0 (fX6_readPaper v).1 (fX6_readPaper v).2 := by
  have fin : ∀ (w : SV) (a b c d : Int32) (p : Nat) (pI : Int32), pI = nI p → p ≤ 2 → BI w → FR7 v w → (v 8 7).toNatClampNeg ≤ (w 8 7).toNatClampNeg → ¬ a = 0 → ¬ b = 0 → ¬ c = 0 →
      RP v 0 (if (fX6_takesFour w a b c d).2 = 0 then ((fX6_takesFour w a b c d).1, (0 : Int32)) else (if (fX6_addPart (fX6_takesFour w a b c d).1 1 pI 0).2 = 0 then ((fX6_addPart (fX6_takesFour w a b c d).1 1 pI 0).1, 0) else ((fX6_addPart (fX6_takesFour w a b c d).1 1 pI 0).1, 1))).1
        (if (fX6_takesFour w a b c d).2 = 0 then ((fX6_takesFour w a b c d).1, (0 : Int32)) else (if (fX6_addPart (fX6_takesFour w a b c d).1 1 pI 0).2 = 0 then ((fX6_addPart (fX6_takesFour w a b c d).1 1 pI 0).1, 0) else ((fX6_addPart (fX6_takesFour w a b c d).1 1 pI 0).1, 1))).2 := by
    intro w a b c d p pI hp hp2 hB f hn ha hb hc
    have s := four_spec (d := d) hB ha hb hc
    generalize fX6_takesFour w a b c d = r at s ⊢
    split
    · exact RP.no 0 (f.tr s.2.1)
    · rename_i n1
      have c1 := s.2.2 n1
      split
      · exact RP.yes (f.tr s.2.1) s.1 (by omega) (fun _ => ⟨p, hp2, hp⟩)
      · exact RP.yes (f.tr s.2.1) s.1 (by omega) (fun _ => ⟨p, hp2, hp⟩)
  unfold fX6_readPaper
  dsimp only
  have s1 := takes_spec (a := 112) h (by decide)
  generalize fX6_takes v 112 = r1 at s1 ⊢
  have c1 : (v 8 7).toNatClampNeg ≤ (r1.1 8 7).toNatClampNeg := by
    rcases s1.2.2 with z | z
    · have := z.2; omega
    · have := z.2; omega
  split
  · have s2 := takes_spec (a := 102) s1.1 (by decide)
    generalize fX6_takes r1.1 102 = r2 at s2 ⊢
    have c2 : (v 8 7).toNatClampNeg ≤ (r2.1 8 7).toNatClampNeg := by
      rcases s2.2.2 with z | z
      · have := z.2; omega
      · have := z.2; omega
    split
    · have s3 := takes_spec (a := 108) s2.1 (by decide)
      generalize fX6_takes r2.1 108 = r3 at s3 ⊢
      have c3 : (v 8 7).toNatClampNeg ≤ (r3.1 8 7).toNatClampNeg := by
        rcases s3.2.2 with z | z
        · have := z.2; omega
        · have := z.2; omega
      split
      · exact RP.no 0 ((s1.2.1.tr s2.2.1).tr s3.2.1)
      · exact fin r3.1 _ _ _ _ 2 2 rfl (by omega) s3.1 ((s1.2.1.tr s2.2.1).tr s3.2.1) c3 (by decide) (by decide) (by decide)
    · exact fin r2.1 _ _ _ _ 1 1 rfl (by omega) s2.1 (s1.2.1.tr s2.2.1) c2 (by decide) (by decide) (by decide)
  · exact fin r1.1 _ _ _ _ 0 0 rfl (by omega) s1.1 s1.2.1 c1 (by decide) (by decide) (by decide)
theorem rest_spec (v : SV) (h : BI v) : RP v 0 (fX6_readRest v).1 (fX6_readRest v).2 := by
  unfold fX6_readRest
  dsimp only
  have s1 := rn_spec v 999 h
  generalize fX6_readNumber v 999 = r1 at s1 ⊢
  split
  · exact RP.no 0 s1.2.1
  · split
    · exact RP.yes s1.2.1 s1.1 (by have := s1.2.2; omega) (fun z => absurd z (by decide))
    · exact RP.yes s1.2.1 s1.1 (by have := s1.2.2; omega) (fun z => absurd z (by decide))
theorem ite01 {u : SV} {v : SV} {n : Nat} {r : Int32} (h : RP v n u r) : RP v n (if r = 0 then (u, (0 : Int32)) else (u, 1)).1 (if r = 0 then (u, (0 : Int32)) else (u, 1)).2 := by
  split
  · rename_i e; rw [e] at h; exact h
  · rename_i e; exact h.nz e
theorem rp_spec (v : SV) (h : BI v) : RP v 4 (fX6_readPart v).1 (fX6_readPart v).2 := by
  unfold fX6_readPart
  dsimp only
  have t : ∀ (w : SV) (a : Int32), BI w → ¬ a = 0 → ¬ (fX6_takes w a).2 = 0 → ((fX6_takes w a).1 8 7).toNatClampNeg = (w 8 7).toNatClampNeg + 1 := fun w a hB ha q => (takes_spec hB ha).2.2.elim (fun z => absurd z.1 q) (fun z => z.2)
  have s1 := takes_spec (a := 108) h (by decide)
  have t1 := t v 108 h (by decide)
  generalize fX6_takes v 108 = r1 at s1 t1 ⊢
  split
  · rename_i n1
    have z1 : (r1.1 8 7).toNatClampNeg = (v 8 7).toNatClampNeg := s1.2.2.elim (fun z => z.2) (fun z => absurd (n1.symm.trans z.1) (by decide))
    have s2 := takes_spec (a := 112) s1.1 (by decide)
    have t2 := t r1.1 112 s1.1 (by decide)
    generalize fX6_takes r1.1 112 = r2 at s2 t2 ⊢
    split
    · rename_i n2
      have z2 : (r2.1 8 7).toNatClampNeg = (r1.1 8 7).toNatClampNeg := s2.2.2.elim (fun z => z.2) (fun z => absurd (n2.symm.trans z.1) (by decide))
      have s3 := takes_spec (a := 114) s2.1 (by decide)
      have t3 := t r2.1 114 s2.1 (by decide)
      generalize fX6_takes r2.1 114 = r3 at s3 t3 ⊢
      split
      · rename_i n3
        have z3 : (r3.1 8 7).toNatClampNeg = (r2.1 8 7).toNatClampNeg := s3.2.2.elim (fun z => z.2) (fun z => absurd (n3.symm.trans z.1) (by decide))
        have s4 := takes_spec (a := 101) s3.1 (by decide)
        have t4 := t r3.1 101 s3.1 (by decide)
        generalize fX6_takes r3.1 101 = r4 at s4 t4 ⊢
        split
        · exact RP.no 4 (((s1.2.1.tr s2.2.1).tr s3.2.1).tr s4.2.1)
        · rename_i n4
          have t4 := t4 n4
          have s5 := four_spec (a := 109) (b := 112) (c := 116) (d := 121) s4.1 (by decide) (by decide) (by decide)
          generalize fX6_takesFour r4.1 109 112 116 121 = r5 at s5 ⊢
          split
          · exact RP.no 4 ((((s1.2.1.tr s2.2.1).tr s3.2.1).tr s4.2.1).tr s5.2.1)
          · rename_i n5
            have c5 := s5.2.2 n5
            split
            · exact RP.yes ((((s1.2.1.tr s2.2.1).tr s3.2.1).tr s4.2.1).tr s5.2.1) s5.1 (by omega) (fun z => absurd z (by decide))
            · exact RP.yes ((((s1.2.1.tr s2.2.1).tr s3.2.1).tr s4.2.1).tr s5.2.1) s5.1 (by omega) (fun z => absurd z (by decide))
      · rename_i n3
        have t3 := t3 n3
        have s5 := four_spec (a := 101) (b := 115) (c := 116) (d := 0) s3.1 (by decide) (by decide) (by decide)
        generalize fX6_takesFour r3.1 101 115 116 0 = r5 at s5 ⊢
        split
        · exact RP.no 4 (((s1.2.1.tr s2.2.1).tr s3.2.1).tr s5.2.1)
        · rename_i n5
          have c5 := s5.2.2 n5
          exact ite01 (RP.w (n := 4 + 0) (by omega) (RP.from (((s1.2.1.tr s2.2.1).tr s3.2.1).tr s5.2.1) (by omega) (rest_spec r5.1 s5.1)))
    · rename_i n2
      have t2 := t2 n2
      have s5 := four_spec (a := 97) (b := 112) (c := 101) (d := 114) s2.1 (by decide) (by decide) (by decide)
      generalize fX6_takesFour r2.1 97 112 101 114 = r5 at s5 ⊢
      split
      · exact RP.no 4 ((s1.2.1.tr s2.2.1).tr s5.2.1)
      · rename_i n5
        have c5 := s5.2.2 n5
        have s6 := takes_spec (a := 58) s5.1 (by decide)
        have t6 := t r5.1 58 s5.1 (by decide)
        generalize fX6_takes r5.1 58 = r6 at s6 t6 ⊢
        split
        · exact RP.no 4 (((s1.2.1.tr s2.2.1).tr s5.2.1).tr s6.2.1)
        · rename_i n6
          have t6 := t6 n6
          exact ite01 (RP.w (n := 4 + 0) (by omega) (RP.from (((s1.2.1.tr s2.2.1).tr s5.2.1).tr s6.2.1) (by omega) (pap_spec r6.1 s6.1)))
  · rename_i n1
    have t1 := t1 n1
    have s5 := four_spec (a := 105) (b := 110) (c := 101) (d := 0) s1.1 (by decide) (by decide) (by decide)
    generalize fX6_takesFour r1.1 105 110 101 0 = r5 at s5 ⊢
    split
    · exact RP.no 4 (s1.2.1.tr s5.2.1)
    · rename_i n5
      have c5 := s5.2.2 n5
      exact ite01 (RP.w (n := 4 + 0) (by omega) (RP.from (s1.2.1.tr s5.2.1) (by omega) (rl_spec r5.1 s5.1)))
/-- ahead of a part: a part has taken four characters at least; the papers that are told are papers -/
def RI (v : SV) : Prop := BI v ∧ (¬ v 8 8 < 0 ∧ 4 * (v 8 8).toNatClampNeg ≤ (v 8 7).toNatClampNeg) ∧ ∀ j, j < (v 8 8).toNatClampNeg → v 5 j = 1 → ∃ c, c ≤ 2 ∧ v 6 j = nI c
def QI (v : SV) (r : Int32) : Prop := ¬ r = 0 → RI v
theorem RI_15 {v : SV} (h : RI v) : le_n (v 8 8) 15 := ⟨h.2.1.1, by have a := h.1.1.2; have b := h.1.2.2; have c := h.2.1.2; omega⟩
theorem PB_RI {v : SV} (h : RI v) : PB v := ⟨h.1, RI_15 h⟩
theorem BI_0 {v : SV} (h : le_n (v 8 6) 60) {u : SV} (e6 : u 8 6 = v 8 6) (e7 : u 8 7 = 0) : BI u := by
  unfold BI
  rw [e6, e7]
  exact ⟨h, by decide, Nat.zero_le _⟩
theorem RI_0 {v : SV} (h : BI v) {u : SV} (e6 : u 8 6 = v 8 6) (e7 : u 8 7 = v 8 7) (e8 : u 8 8 = 0) : RI u := by
  unfold RI BI
  rw [e6, e7, e8]
  exact ⟨h, ⟨by decide, Nat.zero_le _⟩, fun j hj => absurd hj (Nat.not_lt_zero _)⟩
theorem RI_takes {v : SV} {a : Int32} (h : RI v) (ha : ¬ a = 0) : RI (fX6_takes v a).1 := by
  have s := takes_spec h.1 ha
  refine ⟨s.1, ?_⟩
  rw [s.2.1.2 8 (by omega) (by omega), s.2.1.1 5 (by omega), s.2.1.1 6 (by omega)]
  refine ⟨⟨h.2.1.1, ?_⟩, h.2.2⟩
  have c := h.2.1.2
  rcases s.2.2 with z | z
  · have := z.2; omega
  · have := z.2; omega
theorem QI_readPart {v : SV} (h : RI v) : QI (fX6_readPart v).1 (fX6_readPart v).2 := by
  intro nr
  have s := rp_spec v h.1
  rcases s.2 with e | ⟨w, k, a, m, f, hB, hn, hk, e⟩
  · exact absurd e nr
  · have h15 := RI_15 h
    have e8 : w 8 8 = v 8 8 := f.2 8 (by omega) (by omega)
    have e5 : w 5 = v 5 := f.1 5 (by omega)
    have e6 : w 6 = v 6 := f.1 6 (by omega)
    have q := lq h15
    have q2 : v 8 8 + 1 = nI ((v 8 8).toNatClampNeg + 1) := by
      generalize (v 8 8).toNatClampNeg = n at q ⊢
      rw [q]; exact nI_1 n
    have q3 : (v 8 8 + 1).toNatClampNeg = (v 8 8).toNatClampNeg + 1 := by
      rw [q2, nI_clamp]; have := h15.2; omega
    rw [e]
    refine ⟨?_, ⟨?_, ?_⟩, ?_⟩
    · exact hB
    · show ¬ w 8 8 + 1 < 0
      rw [e8, q2]
      exact nI_nlt (b := 0) (Nat.zero_le _) (by have := h15.2; omega)
    · show 4 * (w 8 8 + 1).toNatClampNeg ≤ (w 8 7).toNatClampNeg
      rw [e8, q3]
      have := h.2.1.2
      omega
    · intro j hj
      have hj : j < (w 8 8 + 1).toNatClampNeg := hj
      show upd (w 5) (w 8 8).toNatClampNeg k j = 1 → ∃ c, c ≤ 2 ∧ upd (w 6) (w 8 8).toNatClampNeg a j = nI c
      rw [e8, q3] at hj
      rw [e8, e5, e6]
      by_cases z : j = (v 8 8).toNatClampNeg
      · rw [z, pk_us, pk_us]; exact hk
      · rw [pk_un z, pk_un z]; exact h.2.2 j (by omega)
theorem T_arePrints_N (v : SV) : ∀ (n : Nat) (y : Int32) (w : SV), QI w y → (¬ y = 0 → (w 8 6).toNatClampNeg ≤ (w 8 7).toNatClampNeg + n) → lpT (n + 1) (bX6_arePrints_15 v) (y, w) := by
  intro n
  induction n with
  | zero =>
    intro y w h hn
    refine Or.inl ?_
    by_cases q : y = 0
    · unfold bX6_arePrints_15
      dsimp only
      rw [if_pos q]
    · have hI := h q
      have hn := hn q
      have s := takes_spec (a := 59) hI.1 (by decide)
      unfold bX6_arePrints_15
      dsimp only
      rw [if_neg q]
      have z : (fX6_takes w 59).2 = 0 := by
        rcases s.2.2 with z | z
        · exact z.1
        · have a := s.1.2.2
          rw [s.2.1.2 6 (by omega) (by omega)] at a
          have b := z.2
          omega
      rw [if_pos z]
  | succ n ih =>
    intro y w h hn
    by_cases q : y = 0
    · refine Or.inl ?_
      unfold bX6_arePrints_15
      dsimp only
      rw [if_pos q]
    · have hI := h q
      have hn := hn q
      have s := takes_spec (a := 59) hI.1 (by decide)
      by_cases z : (fX6_takes w 59).2 = 0
      · refine Or.inl ?_
        unfold bX6_arePrints_15
        dsimp only
        rw [if_neg q, if_pos z]
      · refine Or.inr ?_
        have e : bX6_arePrints_15 v (y, w) = (true, ((fX6_readPart (fX6_takes w 59).1).2, (fX6_readPart (fX6_takes w 59).1).1)) := by
          unfold bX6_arePrints_15
          dsimp only
          rw [if_neg q, if_neg z]
        rw [e]
        have R1 := RI_takes (a := 59) hI (by decide)
        have c1 : ((fX6_takes w 59).1 8 7).toNatClampNeg = (w 8 7).toNatClampNeg + 1 := s.2.2.elim (fun k => absurd k.1 z) (fun k => k.2)
        have l1 : (fX6_takes w 59).1 8 6 = w 8 6 := s.2.1.2 6 (by omega) (by omega)
        generalize (fX6_takes w 59).1 = u at R1 c1 l1 ⊢
        have Q := QI_readPart R1
        have P := rp_spec u R1.1
        refine ih _ _ Q (fun nr => ?_)
        rw [P.1.2 6 (by omega), l1]
        rcases P.2 with k | ⟨w2, k, a, m, f, hB, hn2, hk, e2⟩
        · exact absurd k nr
        · have e7 : (fX6_readPart u).1 8 7 = w2 8 7 := by rw [e2]; rfl
          rw [e7]
          omega
theorem T_arePrints (v : SV) (y : Int32) (w : SV) (h : QI w y) : lpT (mR + 1) (bX6_arePrints_15 v) (y, w) := T_arePrints_N v mR y w h (fun q => by have := (h q).1.1.2; show _ ≤ _ + 60; omega)
theorem dX6_readPaper_0 : decode cX6_readPaper 0 = .ok (.aload_n 0, 1) := by decide +kernel
theorem dX6_readPaper_1 : decode cX6_readPaper 1 = .ok (.bipush 112, 2) := by decide +kernel
theorem dX6_readPaper_3 : decode cX6_readPaper 3 = .ok (.invokevirtual 142, 3) := by decide +kernel
theorem dX6_readPaper_6 : decode cX6_readPaper 6 = .ok (.ifCond .eq 34, 3) := by decide +kernel
theorem dX6_readPaper_9 : decode cX6_readPaper 9 = .ok (.aload_n 0, 1) := by decide +kernel
theorem dX6_readPaper_10 : decode cX6_readPaper 10 = .ok (.bipush 108, 2) := by decide +kernel
theorem dX6_readPaper_12 : decode cX6_readPaper 12 = .ok (.bipush 97, 2) := by decide +kernel
theorem dX6_readPaper_14 : decode cX6_readPaper 14 = .ok (.bipush 105, 2) := by decide +kernel
theorem dX6_readPaper_16 : decode cX6_readPaper 16 = .ok (.bipush 110, 2) := by decide +kernel
theorem dX6_readPaper_18 : decode cX6_readPaper 18 = .ok (.invokevirtual 154, 3) := by decide +kernel
theorem dX6_readPaper_21 : decode cX6_readPaper 21 = .ok (.ifCond .eq 17, 3) := by decide +kernel
theorem dX6_readPaper_24 : decode cX6_readPaper 24 = .ok (.aload_n 0, 1) := by decide +kernel
theorem dX6_readPaper_25 : decode cX6_readPaper 25 = .ok (.iconst 1, 1) := by decide +kernel
theorem dX6_readPaper_26 : decode cX6_readPaper 26 = .ok (.iconst 0, 1) := by decide +kernel
theorem dX6_readPaper_27 : decode cX6_readPaper 27 = .ok (.iconst 0, 1) := by decide +kernel
theorem dX6_readPaper_28 : decode cX6_readPaper 28 = .ok (.invokevirtual 151, 3) := by decide +kernel
theorem dX6_readPaper_31 : decode cX6_readPaper 31 = .ok (.ifCond .eq 7, 3) := by decide +kernel
theorem dX6_readPaper_34 : decode cX6_readPaper 34 = .ok (.iconst 1, 1) := by decide +kernel
theorem dX6_readPaper_35 : decode cX6_readPaper 35 = .ok (.goto 4, 3) := by decide +kernel
theorem dX6_readPaper_38 : decode cX6_readPaper 38 = .ok (.iconst 0, 1) := by decide +kernel
theorem dX6_readPaper_39 : decode cX6_readPaper 39 = .ok (.ireturn, 1) := by decide +kernel
theorem dX6_readPaper_40 : decode cX6_readPaper 40 = .ok (.aload_n 0, 1) := by decide +kernel
theorem dX6_readPaper_41 : decode cX6_readPaper 41 = .ok (.bipush 102, 2) := by decide +kernel
theorem dX6_readPaper_43 : decode cX6_readPaper 43 = .ok (.invokevirtual 142, 3) := by decide +kernel
theorem dX6_readPaper_46 : decode cX6_readPaper 46 = .ok (.ifCond .eq 33, 3) := by decide +kernel
theorem dX6_readPaper_49 : decode cX6_readPaper 49 = .ok (.aload_n 0, 1) := by decide +kernel
theorem dX6_readPaper_50 : decode cX6_readPaper 50 = .ok (.bipush 105, 2) := by decide +kernel
theorem dX6_readPaper_52 : decode cX6_readPaper 52 = .ok (.bipush 110, 2) := by decide +kernel
theorem dX6_readPaper_54 : decode cX6_readPaper 54 = .ok (.bipush 101, 2) := by decide +kernel
theorem dX6_readPaper_56 : decode cX6_readPaper 56 = .ok (.iconst 0, 1) := by decide +kernel
theorem dX6_readPaper_57 : decode cX6_readPaper 57 = .ok (.invokevirtual 154, 3) := by decide +kernel
theorem dX6_readPaper_60 : decode cX6_readPaper 60 = .ok (.ifCond .eq 17, 3) := by decide +kernel
theorem dX6_readPaper_63 : decode cX6_readPaper 63 = .ok (.aload_n 0, 1) := by decide +kernel
theorem dX6_readPaper_64 : decode cX6_readPaper 64 = .ok (.iconst 1, 1) := by decide +kernel
theorem dX6_readPaper_65 : decode cX6_readPaper 65 = .ok (.iconst 1, 1) := by decide +kernel
theorem dX6_readPaper_66 : decode cX6_readPaper 66 = .ok (.iconst 0, 1) := by decide +kernel
theorem dX6_readPaper_67 : decode cX6_readPaper 67 = .ok (.invokevirtual 151, 3) := by decide +kernel
theorem dX6_readPaper_70 : decode cX6_readPaper 70 = .ok (.ifCond .eq 7, 3) := by decide +kernel
theorem dX6_readPaper_73 : decode cX6_readPaper 73 = .ok (.iconst 1, 1) := by decide +kernel
theorem dX6_readPaper_74 : decode cX6_readPaper 74 = .ok (.goto 4, 3) := by decide +kernel
theorem dX6_readPaper_77 : decode cX6_readPaper 77 = .ok (.iconst 0, 1) := by decide +kernel
theorem dX6_readPaper_78 : decode cX6_readPaper 78 = .ok (.ireturn, 1) := by decide +kernel
theorem dX6_readPaper_79 : decode cX6_readPaper 79 = .ok (.aload_n 0, 1) := by decide +kernel
theorem dX6_readPaper_80 : decode cX6_readPaper 80 = .ok (.bipush 108, 2) := by decide +kernel
theorem dX6_readPaper_82 : decode cX6_readPaper 82 = .ok (.invokevirtual 142, 3) := by decide +kernel
theorem dX6_readPaper_85 : decode cX6_readPaper 85 = .ok (.ifCond .eq 32, 3) := by decide +kernel
theorem dX6_readPaper_88 : decode cX6_readPaper 88 = .ok (.aload_n 0, 1) := by decide +kernel
theorem dX6_readPaper_89 : decode cX6_readPaper 89 = .ok (.bipush 97, 2) := by decide +kernel
theorem dX6_readPaper_91 : decode cX6_readPaper 91 = .ok (.bipush 98, 2) := by decide +kernel
theorem dX6_readPaper_93 : decode cX6_readPaper 93 = .ok (.bipush 101, 2) := by decide +kernel
theorem dX6_readPaper_95 : decode cX6_readPaper 95 = .ok (.bipush 108, 2) := by decide +kernel
theorem dX6_readPaper_97 : decode cX6_readPaper 97 = .ok (.invokevirtual 154, 3) := by decide +kernel
theorem dX6_readPaper_100 : decode cX6_readPaper 100 = .ok (.ifCond .eq 17, 3) := by decide +kernel
theorem dX6_readPaper_103 : decode cX6_readPaper 103 = .ok (.aload_n 0, 1) := by decide +kernel
theorem dX6_readPaper_104 : decode cX6_readPaper 104 = .ok (.iconst 1, 1) := by decide +kernel
theorem dX6_readPaper_105 : decode cX6_readPaper 105 = .ok (.iconst 2, 1) := by decide +kernel
theorem dX6_readPaper_106 : decode cX6_readPaper 106 = .ok (.iconst 0, 1) := by decide +kernel
theorem dX6_readPaper_107 : decode cX6_readPaper 107 = .ok (.invokevirtual 151, 3) := by decide +kernel
theorem dX6_readPaper_110 : decode cX6_readPaper 110 = .ok (.ifCond .eq 7, 3) := by decide +kernel
theorem dX6_readPaper_113 : decode cX6_readPaper 113 = .ok (.iconst 1, 1) := by decide +kernel
theorem dX6_readPaper_114 : decode cX6_readPaper 114 = .ok (.goto 4, 3) := by decide +kernel
theorem dX6_readPaper_117 : decode cX6_readPaper 117 = .ok (.iconst 0, 1) := by decide +kernel
theorem dX6_readPaper_118 : decode cX6_readPaper 118 = .ok (.ireturn, 1) := by decide +kernel
set_option maxHeartbeats 1000000 in
set_option maxRecDepth 100000 in
theorem c_X6_readPaper (l : Launch) (G : GT) (q : Nat → Nat) (v : SV) (hs : Int64) (hq : mdD G q) (hI : PB v) : Met l yX6_readPaper (Cond.code yX6_readPaper cX6_readPaper 1 (some .boolean) :: bigW) ({ frames := 3, cells := 0, slots := 0, locals := 66 }) (BP G [.ref (q 0)] (fun U H => PW G (mdW G q v hs) H)) (QE (some (.int (fX6_readPaper v).2)) (fun H => PW G (mdW G q (fX6_readPaper v).1 hs) H) (mdA q)) 0 0 (mdA q) := by
  refine met_of (by decide) (Nat.le_of_ble_eq_true rfl) ?_
  intro p e s m below meth c ls hC hKN hB0 hl
  have hP := hB0
  have hl : lv_has ls 1 [(0, .ref (q 0))] := hl
  have hS : va_S (mdA q) s.heap s.heap [] := va_S.rf
  have hAL : ∀ a, (mdA q) a → gL G ≤ a := mdD_low hq
  have hg : fX6_readPaper v = fX6_readPaper v := rfl
  refine lv_aload_n hC.1 hC.2.1 dX6_readPaper_0 rfl (lv_at hl 0 rfl) ?_
  refine lv_bipush (v := 112) hC.1 hC.2.1 dX6_readPaper_1 (by decide +kernel) ?_
  refine runE (rV (B := fun U H => PW G (mdW G q v hs) H) (As := [.int 112]) (rest := []) hC mwX6_takes (c_X6_takes l G q v hs 112 hq hI.1 (by decide)) iwX6_takes wd_1086 ⟨rfl, rfl⟩ ⟨Nat.le_of_ble_eq_true rfl, Nat.le_of_ble_eq_true rfl⟩ (stb_h (fun H => PW G (mdW G q v hs) H)) hKN hP (va_recv hKN.k hP (ci := 6) (q0 := 0) rfl rfl) rfl hl.1 rfl (Nat.le_of_ble_eq_true rfl) dX6_readPaper_3 ⟨Nat.zero_le _, Nat.zero_le _⟩) hS (fun _ h => h) (fun _ h => h) (fun H locs hq_1 _ _ hS => ?_)
  have hP : PW G (mdW G q ((fX6_takes v 112).1) hs) H := hq_1
  obtain ⟨r_2, er_2⟩ : ∃ z, z = fX6_takes v 112 := ⟨_, rfl⟩
  rw [← er_2] at hP
  show W p l e ({ frames := 3, cells := 0, slots := 0, locals := 66 }) s m ([.ref (q 0)] : List Value).toArray below meth c H locs (0 + 0) (0 + 0) _ (F0 m (3 + 3) ls [.int ((fX6_takes v 112).2)])
  rw [← er_2]
  have hI : PB r_2.1 := by rw [er_2]; exact (PB_takes hI (by decide))
  refine lv_if_eq (tgt := 40) hC.1 hC.2.1 dX6_readPaper_6 (by decide) (fun k6 => ?_) (fun k6 => ?_)
  · refine lv_aload_n hC.1 hC.2.1 dX6_readPaper_40 rfl (lv_at hl 0 rfl) ?_
    refine lv_bipush (v := 102) hC.1 hC.2.1 dX6_readPaper_41 (by decide +kernel) ?_
    refine runE (rV (B := fun U H => PW G (mdW G q r_2.1 hs) H) (As := [.int 102]) (rest := []) hC mwX6_takes (c_X6_takes l G q r_2.1 hs 102 hq hI.1 (by decide)) iwX6_takes wd_1086 ⟨rfl, rfl⟩ ⟨Nat.le_of_ble_eq_true rfl, Nat.le_of_ble_eq_true rfl⟩ (stb_h (fun H => PW G (mdW G q r_2.1 hs) H)) (hKN.go hAL hS) hP (va_recv (hKN.go hAL hS).k hP (ci := 6) (q0 := 0) rfl rfl) rfl hl.1 rfl (Nat.le_of_ble_eq_true rfl) dX6_readPaper_43 ⟨Nat.zero_le _, Nat.zero_le _⟩) hS (fun _ h => h) (fun _ h => h) (fun H locs hq_3 _ _ hS => ?_)
    have hP : PW G (mdW G q ((fX6_takes r_2.1 102).1) hs) H := hq_3
    obtain ⟨r_4, er_4⟩ : ∃ z, z = fX6_takes r_2.1 102 := ⟨_, rfl⟩
    rw [← er_4] at hP
    show W p l e ({ frames := 3, cells := 0, slots := 0, locals := 66 }) s m ([.ref (q 0)] : List Value).toArray below meth c H locs (0 + 0) (0 + 0) _ (F0 m (43 + 3) ls [.int ((fX6_takes r_2.1 102).2)])
    rw [← er_4]
    have hI : PB r_4.1 := by rw [er_4]; exact (PB_takes hI (by decide))
    refine lv_if_eq (tgt := 79) hC.1 hC.2.1 dX6_readPaper_46 (by decide) (fun k46 => ?_) (fun k46 => ?_)
    · refine lv_aload_n hC.1 hC.2.1 dX6_readPaper_79 rfl (lv_at hl 0 rfl) ?_
      refine lv_bipush (v := 108) hC.1 hC.2.1 dX6_readPaper_80 (by decide +kernel) ?_
      refine runE (rV (B := fun U H => PW G (mdW G q r_4.1 hs) H) (As := [.int 108]) (rest := []) hC mwX6_takes (c_X6_takes l G q r_4.1 hs 108 hq hI.1 (by decide)) iwX6_takes wd_1086 ⟨rfl, rfl⟩ ⟨Nat.le_of_ble_eq_true rfl, Nat.le_of_ble_eq_true rfl⟩ (stb_h (fun H => PW G (mdW G q r_4.1 hs) H)) (hKN.go hAL hS) hP (va_recv (hKN.go hAL hS).k hP (ci := 6) (q0 := 0) rfl rfl) rfl hl.1 rfl (Nat.le_of_ble_eq_true rfl) dX6_readPaper_82 ⟨Nat.zero_le _, Nat.zero_le _⟩) hS (fun _ h => h) (fun _ h => h) (fun H locs hq_5 _ _ hS => ?_)
      have hP : PW G (mdW G q ((fX6_takes r_4.1 108).1) hs) H := hq_5
      obtain ⟨r_6, er_6⟩ : ∃ z, z = fX6_takes r_4.1 108 := ⟨_, rfl⟩
      rw [← er_6] at hP
      show W p l e ({ frames := 3, cells := 0, slots := 0, locals := 66 }) s m ([.ref (q 0)] : List Value).toArray below meth c H locs (0 + 0) (0 + 0) _ (F0 m (82 + 3) ls [.int ((fX6_takes r_4.1 108).2)])
      rw [← er_6]
      have hI : PB r_6.1 := by rw [er_6]; exact (PB_takes hI (by decide))
      refine lv_if_eq (tgt := 117) hC.1 hC.2.1 dX6_readPaper_85 (by decide) (fun k85 => ?_) (fun k85 => ?_)
      · refine lv_iconst (v := 0) hC.1 hC.2.1 dX6_readPaper_117 (by decide) ?_
        have e_7 : fX6_readPaper v = (r_6.1, 0) := by have q_ := er_6.symm; subst q_; have q_ := er_4.symm; subst q_; have q_ := er_2.symm; subst q_; delta fX6_readPaper; exact Eq.trans (if_pos k6) (Eq.trans (if_pos k46) (Eq.trans (if_pos k85) rfl))
        have hg : fX6_readPaper v = (r_6.1, 0) := by have e2 := congrArg (fun z => z) e_7; exact hg.trans e2
        exact eE_z hC (by rw [hg]) rfl (by show PW G (mdW G q (fX6_readPaper v).1 hs) H; rw [hg]; exact hP) hS dX6_readPaper_118
      · refine lv_aload_n hC.1 hC.2.1 dX6_readPaper_88 rfl (lv_at hl 0 rfl) ?_
        refine lv_bipush (v := 97) hC.1 hC.2.1 dX6_readPaper_89 (by decide +kernel) ?_
        refine lv_bipush (v := 98) hC.1 hC.2.1 dX6_readPaper_91 (by decide +kernel) ?_
        refine lv_bipush (v := 101) hC.1 hC.2.1 dX6_readPaper_93 (by decide +kernel) ?_
        refine lv_bipush (v := 108) hC.1 hC.2.1 dX6_readPaper_95 (by decide +kernel) ?_
        refine runE (rV (B := fun U H => PW G (mdW G q r_6.1 hs) H) (As := [.int 97, .int 98, .int 101, .int 108]) (rest := []) hC mwX6_takesFour (c_X6_takesFour l G q r_6.1 hs 97 98 101 108 hq hI.1 (by decide) (by decide) (by decide)) iwX6_takesFour wd_1094 ⟨rfl, rfl⟩ ⟨Nat.le_of_ble_eq_true rfl, Nat.le_of_ble_eq_true rfl⟩ (stb_h (fun H => PW G (mdW G q r_6.1 hs) H)) (hKN.go hAL hS) hP (va_recv (hKN.go hAL hS).k hP (ci := 6) (q0 := 0) rfl rfl) rfl hl.1 rfl (Nat.le_of_ble_eq_true rfl) dX6_readPaper_97 ⟨Nat.zero_le _, Nat.zero_le _⟩) hS (fun _ h => h) (fun _ h => h) (fun H locs hq_8 _ _ hS => ?_)
        have hP : PW G (mdW G q ((fX6_takesFour r_6.1 97 98 101 108).1) hs) H := hq_8
        obtain ⟨r_9, er_9⟩ : ∃ z, z = fX6_takesFour r_6.1 97 98 101 108 := ⟨_, rfl⟩
        rw [← er_9] at hP
        show W p l e ({ frames := 3, cells := 0, slots := 0, locals := 66 }) s m ([.ref (q 0)] : List Value).toArray below meth c H locs (0 + 0) (0 + 0) _ (F0 m (97 + 3) ls [.int ((fX6_takesFour r_6.1 97 98 101 108).2)])
        rw [← er_9]
        have hI : PB r_9.1 := by rw [er_9]; exact (PB_four hI (by decide) (by decide) (by decide))
        refine lv_if_eq (tgt := 117) hC.1 hC.2.1 dX6_readPaper_100 (by decide) (fun k100 => ?_) (fun k100 => ?_)
        · refine lv_iconst (v := 0) hC.1 hC.2.1 dX6_readPaper_117 (by decide) ?_
          have e_10 : fX6_readPaper v = (r_9.1, 0) := by have q_ := er_9.symm; subst q_; have q_ := er_6.symm; subst q_; have q_ := er_4.symm; subst q_; have q_ := er_2.symm; subst q_; delta fX6_readPaper; exact Eq.trans (if_pos k6) (Eq.trans (if_pos k46) (Eq.trans (if_neg k85) (Eq.trans (if_pos k100) rfl)))
          have hg : fX6_readPaper v = (r_9.1, 0) := by have e2 := congrArg (fun z => z) e_10; exact hg.trans e2
          exact eE_z hC (by rw [hg]) rfl (by show PW G (mdW G q (fX6_readPaper v).1 hs) H; rw [hg]; exact hP) hS dX6_readPaper_118
        · refine lv_aload_n hC.1 hC.2.1 dX6_readPaper_103 rfl (lv_at hl 0 rfl) ?_
          refine lv_iconst (v := 1) hC.1 hC.2.1 dX6_readPaper_104 (by decide) ?_
          refine lv_iconst (v := 2) hC.1 hC.2.1 dX6_readPaper_105 (by decide) ?_
          refine lv_iconst (v := 0) hC.1 hC.2.1 dX6_readPaper_106 (by decide) ?_
          refine runE (rV (B := fun U H => PW G (mdW G q r_9.1 hs) H) (As := [.int 1, .int 2, .int 0]) (rest := []) hC mwX6_addPart (c_X6_addPart l G q r_9.1 hs 1 2 0 hq hI.2) iwX6_addPart wd_1106 ⟨rfl, rfl⟩ ⟨Nat.le_of_ble_eq_true rfl, Nat.le_of_ble_eq_true rfl⟩ (stb_h (fun H => PW G (mdW G q r_9.1 hs) H)) (hKN.go hAL hS) hP (va_recv (hKN.go hAL hS).k hP (ci := 6) (q0 := 0) rfl rfl) rfl hl.1 rfl (Nat.le_of_ble_eq_true rfl) dX6_readPaper_107 ⟨Nat.zero_le _, Nat.zero_le _⟩) hS (fun _ h => h) (fun _ h => h) (fun H locs hq_11 _ _ hS => ?_)
          have hP : PW G (mdW G q ((fX6_addPart r_9.1 1 2 0).1) hs) H := hq_11
          obtain ⟨r_12, er_12⟩ : ∃ z, z = fX6_addPart r_9.1 1 2 0 := ⟨_, rfl⟩
          rw [← er_12] at hP
          show W p l e ({ frames := 3, cells := 0, slots := 0, locals := 66 }) s m ([.ref (q 0)] : List Value).toArray below meth c H locs (0 + 0) (0 + 0) _ (F0 m (107 + 3) ls [.int ((fX6_addPart r_9.1 1 2 0).2)])
          rw [← er_12]
          have hI : True := trivial
          refine lv_if_eq (tgt := 117) hC.1 hC.2.1 dX6_readPaper_110 (by decide) (fun k110 => ?_) (fun k110 => ?_)
          · refine lv_iconst (v := 0) hC.1 hC.2.1 dX6_readPaper_117 (by decide) ?_
            have e_13 : fX6_readPaper v = (r_12.1, 0) := by have q_ := er_12.symm; subst q_; have q_ := er_9.symm; subst q_; have q_ := er_6.symm; subst q_; have q_ := er_4.symm; subst q_; have q_ := er_2.symm; subst q_; delta fX6_readPaper; exact Eq.trans (if_pos k6) (Eq.trans (if_pos k46) (Eq.trans (if_neg k85) (Eq.trans (if_neg k100) (Eq.trans (if_pos k110) rfl))))
            have hg : fX6_readPaper v = (r_12.1, 0) := by have e2 := congrArg (fun z => z) e_13; exact hg.trans e2
            exact eE_z hC (by rw [hg]) rfl (by show PW G (mdW G q (fX6_readPaper v).1 hs) H; rw [hg]; exact hP) hS dX6_readPaper_118
          · refine lv_iconst (v := 1) hC.1 hC.2.1 dX6_readPaper_113 (by decide) ?_
            refine lv_goto (tgt := 118) hC.1 hC.2.1 dX6_readPaper_114 (by decide) ?_
            have e_14 : fX6_readPaper v = (r_12.1, 1) := by have q_ := er_12.symm; subst q_; have q_ := er_9.symm; subst q_; have q_ := er_6.symm; subst q_; have q_ := er_4.symm; subst q_; have q_ := er_2.symm; subst q_; delta fX6_readPaper; exact Eq.trans (if_pos k6) (Eq.trans (if_pos k46) (Eq.trans (if_neg k85) (Eq.trans (if_neg k100) (Eq.trans (if_neg k110) rfl))))
            have hg : fX6_readPaper v = (r_12.1, 1) := by have e2 := congrArg (fun z => z) e_14; exact hg.trans e2
            exact eE_z hC (by rw [hg]) rfl (by show PW G (mdW G q (fX6_readPaper v).1 hs) H; rw [hg]; exact hP) hS dX6_readPaper_118
    · refine lv_aload_n hC.1 hC.2.1 dX6_readPaper_49 rfl (lv_at hl 0 rfl) ?_
      refine lv_bipush (v := 105) hC.1 hC.2.1 dX6_readPaper_50 (by decide +kernel) ?_
      refine lv_bipush (v := 110) hC.1 hC.2.1 dX6_readPaper_52 (by decide +kernel) ?_
      refine lv_bipush (v := 101) hC.1 hC.2.1 dX6_readPaper_54 (by decide +kernel) ?_
      refine lv_iconst (v := 0) hC.1 hC.2.1 dX6_readPaper_56 (by decide) ?_
      refine runE (rV (B := fun U H => PW G (mdW G q r_4.1 hs) H) (As := [.int 105, .int 110, .int 101, .int 0]) (rest := []) hC mwX6_takesFour (c_X6_takesFour l G q r_4.1 hs 105 110 101 0 hq hI.1 (by decide) (by decide) (by decide)) iwX6_takesFour wd_1094 ⟨rfl, rfl⟩ ⟨Nat.le_of_ble_eq_true rfl, Nat.le_of_ble_eq_true rfl⟩ (stb_h (fun H => PW G (mdW G q r_4.1 hs) H)) (hKN.go hAL hS) hP (va_recv (hKN.go hAL hS).k hP (ci := 6) (q0 := 0) rfl rfl) rfl hl.1 rfl (Nat.le_of_ble_eq_true rfl) dX6_readPaper_57 ⟨Nat.zero_le _, Nat.zero_le _⟩) hS (fun _ h => h) (fun _ h => h) (fun H locs hq_15 _ _ hS => ?_)
      have hP : PW G (mdW G q ((fX6_takesFour r_4.1 105 110 101 0).1) hs) H := hq_15
      obtain ⟨r_16, er_16⟩ : ∃ z, z = fX6_takesFour r_4.1 105 110 101 0 := ⟨_, rfl⟩
      rw [← er_16] at hP
      show W p l e ({ frames := 3, cells := 0, slots := 0, locals := 66 }) s m ([.ref (q 0)] : List Value).toArray below meth c H locs (0 + 0) (0 + 0) _ (F0 m (57 + 3) ls [.int ((fX6_takesFour r_4.1 105 110 101 0).2)])
      rw [← er_16]
      have hI : PB r_16.1 := by rw [er_16]; exact (PB_four hI (by decide) (by decide) (by decide))
      refine lv_if_eq (tgt := 77) hC.1 hC.2.1 dX6_readPaper_60 (by decide) (fun k60 => ?_) (fun k60 => ?_)
      · refine lv_iconst (v := 0) hC.1 hC.2.1 dX6_readPaper_77 (by decide) ?_
        have e_17 : fX6_readPaper v = (r_16.1, 0) := by have q_ := er_16.symm; subst q_; have q_ := er_4.symm; subst q_; have q_ := er_2.symm; subst q_; delta fX6_readPaper; exact Eq.trans (if_pos k6) (Eq.trans (if_neg k46) (Eq.trans (if_pos k60) rfl))
        have hg : fX6_readPaper v = (r_16.1, 0) := by have e2 := congrArg (fun z => z) e_17; exact hg.trans e2
        exact eE_z hC (by rw [hg]) rfl (by show PW G (mdW G q (fX6_readPaper v).1 hs) H; rw [hg]; exact hP) hS dX6_readPaper_78
      · refine lv_aload_n hC.1 hC.2.1 dX6_readPaper_63 rfl (lv_at hl 0 rfl) ?_
        refine lv_iconst (v := 1) hC.1 hC.2.1 dX6_readPaper_64 (by decide) ?_
        refine lv_iconst (v := 1) hC.1 hC.2.1 dX6_readPaper_65 (by decide) ?_
        refine lv_iconst (v := 0) hC.1 hC.2.1 dX6_readPaper_66 (by decide) ?_
        refine runE (rV (B := fun U H => PW G (mdW G q r_16.1 hs) H) (As := [.int 1, .int 1, .int 0]) (rest := []) hC mwX6_addPart (c_X6_addPart l G q r_16.1 hs 1 1 0 hq hI.2) iwX6_addPart wd_1106 ⟨rfl, rfl⟩ ⟨Nat.le_of_ble_eq_true rfl, Nat.le_of_ble_eq_true rfl⟩ (stb_h (fun H => PW G (mdW G q r_16.1 hs) H)) (hKN.go hAL hS) hP (va_recv (hKN.go hAL hS).k hP (ci := 6) (q0 := 0) rfl rfl) rfl hl.1 rfl (Nat.le_of_ble_eq_true rfl) dX6_readPaper_67 ⟨Nat.zero_le _, Nat.zero_le _⟩) hS (fun _ h => h) (fun _ h => h) (fun H locs hq_18 _ _ hS => ?_)
        have hP : PW G (mdW G q ((fX6_addPart r_16.1 1 1 0).1) hs) H := hq_18
        obtain ⟨r_19, er_19⟩ : ∃ z, z = fX6_addPart r_16.1 1 1 0 := ⟨_, rfl⟩
        rw [← er_19] at hP
        show W p l e ({ frames := 3, cells := 0, slots := 0, locals := 66 }) s m ([.ref (q 0)] : List Value).toArray below meth c H locs (0 + 0) (0 + 0) _ (F0 m (67 + 3) ls [.int ((fX6_addPart r_16.1 1 1 0).2)])
        rw [← er_19]
        have hI : True := trivial
        refine lv_if_eq (tgt := 77) hC.1 hC.2.1 dX6_readPaper_70 (by decide) (fun k70 => ?_) (fun k70 => ?_)
        · refine lv_iconst (v := 0) hC.1 hC.2.1 dX6_readPaper_77 (by decide) ?_
          have e_20 : fX6_readPaper v = (r_19.1, 0) := by have q_ := er_19.symm; subst q_; have q_ := er_16.symm; subst q_; have q_ := er_4.symm; subst q_; have q_ := er_2.symm; subst q_; delta fX6_readPaper; exact Eq.trans (if_pos k6) (Eq.trans (if_neg k46) (Eq.trans (if_neg k60) (Eq.trans (if_pos k70) rfl)))
          have hg : fX6_readPaper v = (r_19.1, 0) := by have e2 := congrArg (fun z => z) e_20; exact hg.trans e2
          exact eE_z hC (by rw [hg]) rfl (by show PW G (mdW G q (fX6_readPaper v).1 hs) H; rw [hg]; exact hP) hS dX6_readPaper_78
        · refine lv_iconst (v := 1) hC.1 hC.2.1 dX6_readPaper_73 (by decide) ?_
          refine lv_goto (tgt := 78) hC.1 hC.2.1 dX6_readPaper_74 (by decide) ?_
          have e_21 : fX6_readPaper v = (r_19.1, 1) := by have q_ := er_19.symm; subst q_; have q_ := er_16.symm; subst q_; have q_ := er_4.symm; subst q_; have q_ := er_2.symm; subst q_; delta fX6_readPaper; exact Eq.trans (if_pos k6) (Eq.trans (if_neg k46) (Eq.trans (if_neg k60) (Eq.trans (if_neg k70) rfl)))
          have hg : fX6_readPaper v = (r_19.1, 1) := by have e2 := congrArg (fun z => z) e_21; exact hg.trans e2
          exact eE_z hC (by rw [hg]) rfl (by show PW G (mdW G q (fX6_readPaper v).1 hs) H; rw [hg]; exact hP) hS dX6_readPaper_78
  · refine lv_aload_n hC.1 hC.2.1 dX6_readPaper_9 rfl (lv_at hl 0 rfl) ?_
    refine lv_bipush (v := 108) hC.1 hC.2.1 dX6_readPaper_10 (by decide +kernel) ?_
    refine lv_bipush (v := 97) hC.1 hC.2.1 dX6_readPaper_12 (by decide +kernel) ?_
    refine lv_bipush (v := 105) hC.1 hC.2.1 dX6_readPaper_14 (by decide +kernel) ?_
    refine lv_bipush (v := 110) hC.1 hC.2.1 dX6_readPaper_16 (by decide +kernel) ?_
    refine runE (rV (B := fun U H => PW G (mdW G q r_2.1 hs) H) (As := [.int 108, .int 97, .int 105, .int 110]) (rest := []) hC mwX6_takesFour (c_X6_takesFour l G q r_2.1 hs 108 97 105 110 hq hI.1 (by decide) (by decide) (by decide)) iwX6_takesFour wd_1094 ⟨rfl, rfl⟩ ⟨Nat.le_of_ble_eq_true rfl, Nat.le_of_ble_eq_true rfl⟩ (stb_h (fun H => PW G (mdW G q r_2.1 hs) H)) (hKN.go hAL hS) hP (va_recv (hKN.go hAL hS).k hP (ci := 6) (q0 := 0) rfl rfl) rfl hl.1 rfl (Nat.le_of_ble_eq_true rfl) dX6_readPaper_18 ⟨Nat.zero_le _, Nat.zero_le _⟩) hS (fun _ h => h) (fun _ h => h) (fun H locs hq_22 _ _ hS => ?_)
    have hP : PW G (mdW G q ((fX6_takesFour r_2.1 108 97 105 110).1) hs) H := hq_22
    obtain ⟨r_23, er_23⟩ : ∃ z, z = fX6_takesFour r_2.1 108 97 105 110 := ⟨_, rfl⟩
    rw [← er_23] at hP
    show W p l e ({ frames := 3, cells := 0, slots := 0, locals := 66 }) s m ([.ref (q 0)] : List Value).toArray below meth c H locs (0 + 0) (0 + 0) _ (F0 m (18 + 3) ls [.int ((fX6_takesFour r_2.1 108 97 105 110).2)])
    rw [← er_23]
    have hI : PB r_23.1 := by rw [er_23]; exact (PB_four hI (by decide) (by decide) (by decide))
    refine lv_if_eq (tgt := 38) hC.1 hC.2.1 dX6_readPaper_21 (by decide) (fun k21 => ?_) (fun k21 => ?_)
    · refine lv_iconst (v := 0) hC.1 hC.2.1 dX6_readPaper_38 (by decide) ?_
      have e_24 : fX6_readPaper v = (r_23.1, 0) := by have q_ := er_23.symm; subst q_; have q_ := er_2.symm; subst q_; delta fX6_readPaper; exact Eq.trans (if_neg k6) (Eq.trans (if_pos k21) rfl)
      have hg : fX6_readPaper v = (r_23.1, 0) := by have e2 := congrArg (fun z => z) e_24; exact hg.trans e2
      exact eE_z hC (by rw [hg]) rfl (by show PW G (mdW G q (fX6_readPaper v).1 hs) H; rw [hg]; exact hP) hS dX6_readPaper_39
    · refine lv_aload_n hC.1 hC.2.1 dX6_readPaper_24 rfl (lv_at hl 0 rfl) ?_
      refine lv_iconst (v := 1) hC.1 hC.2.1 dX6_readPaper_25 (by decide) ?_
      refine lv_iconst (v := 0) hC.1 hC.2.1 dX6_readPaper_26 (by decide) ?_
      refine lv_iconst (v := 0) hC.1 hC.2.1 dX6_readPaper_27 (by decide) ?_
      refine runE (rV (B := fun U H => PW G (mdW G q r_23.1 hs) H) (As := [.int 1, .int 0, .int 0]) (rest := []) hC mwX6_addPart (c_X6_addPart l G q r_23.1 hs 1 0 0 hq hI.2) iwX6_addPart wd_1106 ⟨rfl, rfl⟩ ⟨Nat.le_of_ble_eq_true rfl, Nat.le_of_ble_eq_true rfl⟩ (stb_h (fun H => PW G (mdW G q r_23.1 hs) H)) (hKN.go hAL hS) hP (va_recv (hKN.go hAL hS).k hP (ci := 6) (q0 := 0) rfl rfl) rfl hl.1 rfl (Nat.le_of_ble_eq_true rfl) dX6_readPaper_28 ⟨Nat.zero_le _, Nat.zero_le _⟩) hS (fun _ h => h) (fun _ h => h) (fun H locs hq_25 _ _ hS => ?_)
      have hP : PW G (mdW G q ((fX6_addPart r_23.1 1 0 0).1) hs) H := hq_25
      obtain ⟨r_26, er_26⟩ : ∃ z, z = fX6_addPart r_23.1 1 0 0 := ⟨_, rfl⟩
      rw [← er_26] at hP
      show W p l e ({ frames := 3, cells := 0, slots := 0, locals := 66 }) s m ([.ref (q 0)] : List Value).toArray below meth c H locs (0 + 0) (0 + 0) _ (F0 m (28 + 3) ls [.int ((fX6_addPart r_23.1 1 0 0).2)])
      rw [← er_26]
      have hI : True := trivial
      refine lv_if_eq (tgt := 38) hC.1 hC.2.1 dX6_readPaper_31 (by decide) (fun k31 => ?_) (fun k31 => ?_)
      · refine lv_iconst (v := 0) hC.1 hC.2.1 dX6_readPaper_38 (by decide) ?_
        have e_27 : fX6_readPaper v = (r_26.1, 0) := by have q_ := er_26.symm; subst q_; have q_ := er_23.symm; subst q_; have q_ := er_2.symm; subst q_; delta fX6_readPaper; exact Eq.trans (if_neg k6) (Eq.trans (if_neg k21) (Eq.trans (if_pos k31) rfl))
        have hg : fX6_readPaper v = (r_26.1, 0) := by have e2 := congrArg (fun z => z) e_27; exact hg.trans e2
        exact eE_z hC (by rw [hg]) rfl (by show PW G (mdW G q (fX6_readPaper v).1 hs) H; rw [hg]; exact hP) hS dX6_readPaper_39
      · refine lv_iconst (v := 1) hC.1 hC.2.1 dX6_readPaper_34 (by decide) ?_
        refine lv_goto (tgt := 39) hC.1 hC.2.1 dX6_readPaper_35 (by decide) ?_
        have e_28 : fX6_readPaper v = (r_26.1, 1) := by have q_ := er_26.symm; subst q_; have q_ := er_23.symm; subst q_; have q_ := er_2.symm; subst q_; delta fX6_readPaper; exact Eq.trans (if_neg k6) (Eq.trans (if_neg k21) (Eq.trans (if_neg k31) rfl))
        have hg : fX6_readPaper v = (r_26.1, 1) := by have e2 := congrArg (fun z => z) e_28; exact hg.trans e2
        exact eE_z hC (by rw [hg]) rfl (by show PW G (mdW G q (fX6_readPaper v).1 hs) H; rw [hg]; exact hP) hS dX6_readPaper_39

theorem dX6_readRest_0 : decode cX6_readRest 0 = .ok (.aload_n 0, 1) := by decide +kernel
theorem dX6_readRest_1 : decode cX6_readRest 1 = .ok (.sipush 999, 3) := by decide +kernel
theorem dX6_readRest_4 : decode cX6_readRest 4 = .ok (.invokevirtual 148, 3) := by decide +kernel
theorem dX6_readRest_7 : decode cX6_readRest 7 = .ok (.istore_n 1, 1) := by decide +kernel
theorem dX6_readRest_8 : decode cX6_readRest 8 = .ok (.iload_n 1, 1) := by decide +kernel
theorem dX6_readRest_9 : decode cX6_readRest 9 = .ok (.ifCond .le 17, 3) := by decide +kernel
theorem dX6_readRest_12 : decode cX6_readRest 12 = .ok (.aload_n 0, 1) := by decide +kernel
theorem dX6_readRest_13 : decode cX6_readRest 13 = .ok (.iconst 2, 1) := by decide +kernel
theorem dX6_readRest_14 : decode cX6_readRest 14 = .ok (.iload_n 1, 1) := by decide +kernel
theorem dX6_readRest_15 : decode cX6_readRest 15 = .ok (.iconst 0, 1) := by decide +kernel
theorem dX6_readRest_16 : decode cX6_readRest 16 = .ok (.invokevirtual 151, 3) := by decide +kernel
theorem dX6_readRest_19 : decode cX6_readRest 19 = .ok (.ifCond .eq 7, 3) := by decide +kernel
theorem dX6_readRest_22 : decode cX6_readRest 22 = .ok (.iconst 1, 1) := by decide +kernel
theorem dX6_readRest_23 : decode cX6_readRest 23 = .ok (.goto 4, 3) := by decide +kernel
theorem dX6_readRest_26 : decode cX6_readRest 26 = .ok (.iconst 0, 1) := by decide +kernel
theorem dX6_readRest_27 : decode cX6_readRest 27 = .ok (.ireturn, 1) := by decide +kernel
set_option maxHeartbeats 1000000 in
set_option maxRecDepth 100000 in
theorem c_X6_readRest (l : Launch) (G : GT) (q : Nat → Nat) (v : SV) (hs : Int64) (hq : mdD G q) (hI : PB v) : Met l yX6_readRest (Cond.code yX6_readRest cX6_readRest 2 (some .boolean) :: bigW) ({ frames := 2, cells := 0, slots := 0, locals := 44 }) (BP G [.ref (q 0)] (fun U H => PW G (mdW G q v hs) H)) (QE (some (.int (fX6_readRest v).2)) (fun H => PW G (mdW G q (fX6_readRest v).1 hs) H) (mdA q)) 0 0 (mdA q) := by
  refine met_of (by decide) (Nat.le_of_ble_eq_true rfl) ?_
  intro p e s m below meth c ls hC hKN hB0 hl
  have hP := hB0
  have hl : lv_has ls 2 [(0, .ref (q 0))] := hl
  have hS : va_S (mdA q) s.heap s.heap [] := va_S.rf
  have hAL : ∀ a, (mdA q) a → gL G ≤ a := mdD_low hq
  have hg : fX6_readRest v = fX6_readRest v := rfl
  refine lv_aload_n hC.1 hC.2.1 dX6_readRest_0 rfl (lv_at hl 0 rfl) ?_
  refine lv_sipush (v := 999) hC.1 hC.2.1 dX6_readRest_1 (by decide +kernel) ?_
  refine runE (rV (B := fun U H => PW G (mdW G q v hs) H) (As := [.int 999]) (rest := []) hC mwX6_readNumber (c_X6_readNumber l G q v hs 999 hq hI.1) iwX6_readNumber wd_1102 ⟨rfl, rfl⟩ ⟨Nat.le_of_ble_eq_true rfl, Nat.le_of_ble_eq_true rfl⟩ (stb_h (fun H => PW G (mdW G q v hs) H)) hKN hP (va_recv hKN.k hP (ci := 6) (q0 := 0) rfl rfl) rfl hl.1 rfl (Nat.le_of_ble_eq_true rfl) dX6_readRest_4 ⟨Nat.zero_le _, Nat.zero_le _⟩) hS (fun _ h => h) (fun _ h => h) (fun H locs hq_1 _ _ hS => ?_)
  have hP : PW G (mdW G q ((fX6_readNumber v 999).1) hs) H := hq_1
  obtain ⟨r_2, er_2⟩ : ∃ z, z = fX6_readNumber v 999 := ⟨_, rfl⟩
  rw [← er_2] at hP
  show W p l e ({ frames := 2, cells := 0, slots := 0, locals := 44 }) s m ([.ref (q 0)] : List Value).toArray below meth c H locs (0 + 0) (0 + 0) _ (F0 m (4 + 3) ls [.int ((fX6_readNumber v 999).2)])
  rw [← er_2]
  have hI : PB r_2.1 := by rw [er_2]; exact (PB_readNumber _ hI)
  refine lv_istore_n (lv' := [(1, .int r_2.2), (0, .ref (q 0))]) hC.1 hC.2.1 dX6_readRest_7 rfl hl (by decide) rfl (fun ls hl => ?_)
  refine lv_iload_n hC.1 hC.2.1 dX6_readRest_8 rfl (lv_at hl 0 rfl) ?_
  refine lv_if_le (tgt := 26) hC.1 hC.2.1 dX6_readRest_9 (by decide) (fun k9 => ?_) (fun k9 => ?_)
  · refine lv_iconst (v := 0) hC.1 hC.2.1 dX6_readRest_26 (by decide) ?_
    have e_3 : fX6_readRest v = (r_2.1, 0) := by have q_ := er_2.symm; subst q_; delta fX6_readRest; exact Eq.trans (if_pos k9) rfl
    have hg : fX6_readRest v = (r_2.1, 0) := by have e2 := congrArg (fun z => z) e_3; exact hg.trans e2
    exact eE_z hC (by rw [hg]) rfl (by show PW G (mdW G q (fX6_readRest v).1 hs) H; rw [hg]; exact hP) hS dX6_readRest_27
  · refine lv_aload_n hC.1 hC.2.1 dX6_readRest_12 rfl (lv_at hl 1 rfl) ?_
    refine lv_iconst (v := 2) hC.1 hC.2.1 dX6_readRest_13 (by decide) ?_
    refine lv_iload_n hC.1 hC.2.1 dX6_readRest_14 rfl (lv_at hl 0 rfl) ?_
    refine lv_iconst (v := 0) hC.1 hC.2.1 dX6_readRest_15 (by decide) ?_
    refine runE (rV (B := fun U H => PW G (mdW G q r_2.1 hs) H) (As := [.int 2, .int r_2.2, .int 0]) (rest := []) hC mwX6_addPart (c_X6_addPart l G q r_2.1 hs 2 r_2.2 0 hq hI.2) iwX6_addPart wd_1106 ⟨rfl, rfl⟩ ⟨Nat.le_of_ble_eq_true rfl, Nat.le_of_ble_eq_true rfl⟩ (stb_h (fun H => PW G (mdW G q r_2.1 hs) H)) (hKN.go hAL hS) hP (va_recv (hKN.go hAL hS).k hP (ci := 6) (q0 := 0) rfl rfl) rfl hl.1 rfl (Nat.le_of_ble_eq_true rfl) dX6_readRest_16 ⟨Nat.zero_le _, Nat.zero_le _⟩) hS (fun _ h => h) (fun _ h => h) (fun H locs hq_4 _ _ hS => ?_)
    have hP : PW G (mdW G q ((fX6_addPart r_2.1 2 r_2.2 0).1) hs) H := hq_4
    obtain ⟨r_5, er_5⟩ : ∃ z, z = fX6_addPart r_2.1 2 r_2.2 0 := ⟨_, rfl⟩
    rw [← er_5] at hP
    show W p l e ({ frames := 2, cells := 0, slots := 0, locals := 44 }) s m ([.ref (q 0)] : List Value).toArray below meth c H locs (0 + 0) (0 + 0) _ (F0 m (16 + 3) ls [.int ((fX6_addPart r_2.1 2 r_2.2 0).2)])
    rw [← er_5]
    have hI : True := trivial
    refine lv_if_eq (tgt := 26) hC.1 hC.2.1 dX6_readRest_19 (by decide) (fun k19 => ?_) (fun k19 => ?_)
    · refine lv_iconst (v := 0) hC.1 hC.2.1 dX6_readRest_26 (by decide) ?_
      have e_6 : fX6_readRest v = (r_5.1, 0) := by have q_ := er_5.symm; subst q_; have q_ := er_2.symm; subst q_; delta fX6_readRest; exact Eq.trans (if_neg k9) (Eq.trans (if_pos k19) rfl)
      have hg : fX6_readRest v = (r_5.1, 0) := by have e2 := congrArg (fun z => z) e_6; exact hg.trans e2
      exact eE_z hC (by rw [hg]) rfl (by show PW G (mdW G q (fX6_readRest v).1 hs) H; rw [hg]; exact hP) hS dX6_readRest_27
    · refine lv_iconst (v := 1) hC.1 hC.2.1 dX6_readRest_22 (by decide) ?_
      refine lv_goto (tgt := 27) hC.1 hC.2.1 dX6_readRest_23 (by decide) ?_
      have e_7 : fX6_readRest v = (r_5.1, 1) := by have q_ := er_5.symm; subst q_; have q_ := er_2.symm; subst q_; delta fX6_readRest; exact Eq.trans (if_neg k9) (Eq.trans (if_neg k19) rfl)
      have hg : fX6_readRest v = (r_5.1, 1) := by have e2 := congrArg (fun z => z) e_7; exact hg.trans e2
      exact eE_z hC (by rw [hg]) rfl (by show PW G (mdW G q (fX6_readRest v).1 hs) H; rw [hg]; exact hP) hS dX6_readRest_27

theorem dX6_readPart_0 : decode cX6_readPart 0 = .ok (.aload_n 0, 1) := by decide +kernel
theorem dX6_readPart_1 : decode cX6_readPart 1 = .ok (.bipush 108, 2) := by decide +kernel
theorem dX6_readPart_3 : decode cX6_readPart 3 = .ok (.invokevirtual 142, 3) := by decide +kernel
theorem dX6_readPart_6 : decode cX6_readPart 6 = .ok (.ifCond .eq 30, 3) := by decide +kernel
theorem dX6_readPart_9 : decode cX6_readPart 9 = .ok (.aload_n 0, 1) := by decide +kernel
theorem dX6_readPart_10 : decode cX6_readPart 10 = .ok (.bipush 105, 2) := by decide +kernel
theorem dX6_readPart_12 : decode cX6_readPart 12 = .ok (.bipush 110, 2) := by decide +kernel
theorem dX6_readPart_14 : decode cX6_readPart 14 = .ok (.bipush 101, 2) := by decide +kernel
theorem dX6_readPart_16 : decode cX6_readPart 16 = .ok (.iconst 0, 1) := by decide +kernel
theorem dX6_readPart_17 : decode cX6_readPart 17 = .ok (.invokevirtual 154, 3) := by decide +kernel
theorem dX6_readPart_20 : decode cX6_readPart 20 = .ok (.ifCond .eq 14, 3) := by decide +kernel
theorem dX6_readPart_23 : decode cX6_readPart 23 = .ok (.aload_n 0, 1) := by decide +kernel
theorem dX6_readPart_24 : decode cX6_readPart 24 = .ok (.invokevirtual 158, 3) := by decide +kernel
theorem dX6_readPart_27 : decode cX6_readPart 27 = .ok (.ifCond .eq 7, 3) := by decide +kernel
theorem dX6_readPart_30 : decode cX6_readPart 30 = .ok (.iconst 1, 1) := by decide +kernel
theorem dX6_readPart_31 : decode cX6_readPart 31 = .ok (.goto 4, 3) := by decide +kernel
theorem dX6_readPart_34 : decode cX6_readPart 34 = .ok (.iconst 0, 1) := by decide +kernel
theorem dX6_readPart_35 : decode cX6_readPart 35 = .ok (.ireturn, 1) := by decide +kernel
theorem dX6_readPart_36 : decode cX6_readPart 36 = .ok (.aload_n 0, 1) := by decide +kernel
theorem dX6_readPart_37 : decode cX6_readPart 37 = .ok (.bipush 112, 2) := by decide +kernel
theorem dX6_readPart_39 : decode cX6_readPart 39 = .ok (.invokevirtual 142, 3) := by decide +kernel
theorem dX6_readPart_42 : decode cX6_readPart 42 = .ok (.ifCond .eq 40, 3) := by decide +kernel
theorem dX6_readPart_45 : decode cX6_readPart 45 = .ok (.aload_n 0, 1) := by decide +kernel
theorem dX6_readPart_46 : decode cX6_readPart 46 = .ok (.bipush 97, 2) := by decide +kernel
theorem dX6_readPart_48 : decode cX6_readPart 48 = .ok (.bipush 112, 2) := by decide +kernel
theorem dX6_readPart_50 : decode cX6_readPart 50 = .ok (.bipush 101, 2) := by decide +kernel
theorem dX6_readPart_52 : decode cX6_readPart 52 = .ok (.bipush 114, 2) := by decide +kernel
theorem dX6_readPart_54 : decode cX6_readPart 54 = .ok (.invokevirtual 154, 3) := by decide +kernel
theorem dX6_readPart_57 : decode cX6_readPart 57 = .ok (.ifCond .eq 23, 3) := by decide +kernel
theorem dX6_readPart_60 : decode cX6_readPart 60 = .ok (.aload_n 0, 1) := by decide +kernel
theorem dX6_readPart_61 : decode cX6_readPart 61 = .ok (.bipush 58, 2) := by decide +kernel
theorem dX6_readPart_63 : decode cX6_readPart 63 = .ok (.invokevirtual 142, 3) := by decide +kernel
theorem dX6_readPart_66 : decode cX6_readPart 66 = .ok (.ifCond .eq 14, 3) := by decide +kernel
theorem dX6_readPart_69 : decode cX6_readPart 69 = .ok (.aload_n 0, 1) := by decide +kernel
theorem dX6_readPart_70 : decode cX6_readPart 70 = .ok (.invokevirtual 162, 3) := by decide +kernel
theorem dX6_readPart_73 : decode cX6_readPart 73 = .ok (.ifCond .eq 7, 3) := by decide +kernel
theorem dX6_readPart_76 : decode cX6_readPart 76 = .ok (.iconst 1, 1) := by decide +kernel
theorem dX6_readPart_77 : decode cX6_readPart 77 = .ok (.goto 4, 3) := by decide +kernel
theorem dX6_readPart_80 : decode cX6_readPart 80 = .ok (.iconst 0, 1) := by decide +kernel
theorem dX6_readPart_81 : decode cX6_readPart 81 = .ok (.ireturn, 1) := by decide +kernel
theorem dX6_readPart_82 : decode cX6_readPart 82 = .ok (.aload_n 0, 1) := by decide +kernel
theorem dX6_readPart_83 : decode cX6_readPart 83 = .ok (.bipush 114, 2) := by decide +kernel
theorem dX6_readPart_85 : decode cX6_readPart 85 = .ok (.invokevirtual 142, 3) := by decide +kernel
theorem dX6_readPart_88 : decode cX6_readPart 88 = .ok (.ifCond .eq 30, 3) := by decide +kernel
theorem dX6_readPart_91 : decode cX6_readPart 91 = .ok (.aload_n 0, 1) := by decide +kernel
theorem dX6_readPart_92 : decode cX6_readPart 92 = .ok (.bipush 101, 2) := by decide +kernel
theorem dX6_readPart_94 : decode cX6_readPart 94 = .ok (.bipush 115, 2) := by decide +kernel
theorem dX6_readPart_96 : decode cX6_readPart 96 = .ok (.bipush 116, 2) := by decide +kernel
theorem dX6_readPart_98 : decode cX6_readPart 98 = .ok (.iconst 0, 1) := by decide +kernel
theorem dX6_readPart_99 : decode cX6_readPart 99 = .ok (.invokevirtual 154, 3) := by decide +kernel
theorem dX6_readPart_102 : decode cX6_readPart 102 = .ok (.ifCond .eq 14, 3) := by decide +kernel
theorem dX6_readPart_105 : decode cX6_readPart 105 = .ok (.aload_n 0, 1) := by decide +kernel
theorem dX6_readPart_106 : decode cX6_readPart 106 = .ok (.invokevirtual 165, 3) := by decide +kernel
theorem dX6_readPart_109 : decode cX6_readPart 109 = .ok (.ifCond .eq 7, 3) := by decide +kernel
theorem dX6_readPart_112 : decode cX6_readPart 112 = .ok (.iconst 1, 1) := by decide +kernel
theorem dX6_readPart_113 : decode cX6_readPart 113 = .ok (.goto 4, 3) := by decide +kernel
theorem dX6_readPart_116 : decode cX6_readPart 116 = .ok (.iconst 0, 1) := by decide +kernel
theorem dX6_readPart_117 : decode cX6_readPart 117 = .ok (.ireturn, 1) := by decide +kernel
theorem dX6_readPart_118 : decode cX6_readPart 118 = .ok (.aload_n 0, 1) := by decide +kernel
theorem dX6_readPart_119 : decode cX6_readPart 119 = .ok (.bipush 101, 2) := by decide +kernel
theorem dX6_readPart_121 : decode cX6_readPart 121 = .ok (.invokevirtual 142, 3) := by decide +kernel
theorem dX6_readPart_124 : decode cX6_readPart 124 = .ok (.ifCond .eq 32, 3) := by decide +kernel
theorem dX6_readPart_127 : decode cX6_readPart 127 = .ok (.aload_n 0, 1) := by decide +kernel
theorem dX6_readPart_128 : decode cX6_readPart 128 = .ok (.bipush 109, 2) := by decide +kernel
theorem dX6_readPart_130 : decode cX6_readPart 130 = .ok (.bipush 112, 2) := by decide +kernel
theorem dX6_readPart_132 : decode cX6_readPart 132 = .ok (.bipush 116, 2) := by decide +kernel
theorem dX6_readPart_134 : decode cX6_readPart 134 = .ok (.bipush 121, 2) := by decide +kernel
theorem dX6_readPart_136 : decode cX6_readPart 136 = .ok (.invokevirtual 154, 3) := by decide +kernel
theorem dX6_readPart_139 : decode cX6_readPart 139 = .ok (.ifCond .eq 17, 3) := by decide +kernel
theorem dX6_readPart_142 : decode cX6_readPart 142 = .ok (.aload_n 0, 1) := by decide +kernel
theorem dX6_readPart_143 : decode cX6_readPart 143 = .ok (.iconst 0, 1) := by decide +kernel
theorem dX6_readPart_144 : decode cX6_readPart 144 = .ok (.iconst 0, 1) := by decide +kernel
theorem dX6_readPart_145 : decode cX6_readPart 145 = .ok (.iconst 1, 1) := by decide +kernel
theorem dX6_readPart_146 : decode cX6_readPart 146 = .ok (.invokevirtual 151, 3) := by decide +kernel
theorem dX6_readPart_149 : decode cX6_readPart 149 = .ok (.ifCond .eq 7, 3) := by decide +kernel
theorem dX6_readPart_152 : decode cX6_readPart 152 = .ok (.iconst 1, 1) := by decide +kernel
theorem dX6_readPart_153 : decode cX6_readPart 153 = .ok (.goto 4, 3) := by decide +kernel
theorem dX6_readPart_156 : decode cX6_readPart 156 = .ok (.iconst 0, 1) := by decide +kernel
theorem dX6_readPart_157 : decode cX6_readPart 157 = .ok (.ireturn, 1) := by decide +kernel
set_option maxHeartbeats 1000000 in
set_option maxRecDepth 100000 in
theorem c_X6_readPart (l : Launch) (G : GT) (q : Nat → Nat) (v : SV) (hs : Int64) (hq : mdD G q) (hI : PB v) : Met l yX6_readPart (Cond.code yX6_readPart cX6_readPart 1 (some .boolean) :: bigW) ({ frames := 4, cells := 0, slots := 0, locals := 86 }) (BP G [.ref (q 0)] (fun U H => PW G (mdW G q v hs) H)) (QE (some (.int (fX6_readPart v).2)) (fun H => PW G (mdW G q (fX6_readPart v).1 hs) H) (mdA q)) 0 0 (mdA q) := by
  refine met_of (by decide) (Nat.le_of_ble_eq_true rfl) ?_
  intro p e s m below meth c ls hC hKN hB0 hl
  have hP := hB0
  have hl : lv_has ls 1 [(0, .ref (q 0))] := hl
  have hS : va_S (mdA q) s.heap s.heap [] := va_S.rf
  have hAL : ∀ a, (mdA q) a → gL G ≤ a := mdD_low hq
  have hg : fX6_readPart v = fX6_readPart v := rfl
  refine lv_aload_n hC.1 hC.2.1 dX6_readPart_0 rfl (lv_at hl 0 rfl) ?_
  refine lv_bipush (v := 108) hC.1 hC.2.1 dX6_readPart_1 (by decide +kernel) ?_
  refine runE (rV (B := fun U H => PW G (mdW G q v hs) H) (As := [.int 108]) (rest := []) hC mwX6_takes (c_X6_takes l G q v hs 108 hq hI.1 (by decide)) iwX6_takes wd_1086 ⟨rfl, rfl⟩ ⟨Nat.le_of_ble_eq_true rfl, Nat.le_of_ble_eq_true rfl⟩ (stb_h (fun H => PW G (mdW G q v hs) H)) hKN hP (va_recv hKN.k hP (ci := 6) (q0 := 0) rfl rfl) rfl hl.1 rfl (Nat.le_of_ble_eq_true rfl) dX6_readPart_3 ⟨Nat.zero_le _, Nat.zero_le _⟩) hS (fun _ h => h) (fun _ h => h) (fun H locs hq_1 _ _ hS => ?_)
  have hP : PW G (mdW G q ((fX6_takes v 108).1) hs) H := hq_1
  obtain ⟨r_2, er_2⟩ : ∃ z, z = fX6_takes v 108 := ⟨_, rfl⟩
  rw [← er_2] at hP
  show W p l e ({ frames := 4, cells := 0, slots := 0, locals := 86 }) s m ([.ref (q 0)] : List Value).toArray below meth c H locs (0 + 0) (0 + 0) _ (F0 m (3 + 3) ls [.int ((fX6_takes v 108).2)])
  rw [← er_2]
  have hI : PB r_2.1 := by rw [er_2]; exact (PB_takes hI (by decide))
  refine lv_if_eq (tgt := 36) hC.1 hC.2.1 dX6_readPart_6 (by decide) (fun k6 => ?_) (fun k6 => ?_)
  · refine lv_aload_n hC.1 hC.2.1 dX6_readPart_36 rfl (lv_at hl 0 rfl) ?_
    refine lv_bipush (v := 112) hC.1 hC.2.1 dX6_readPart_37 (by decide +kernel) ?_
    refine runE (rV (B := fun U H => PW G (mdW G q r_2.1 hs) H) (As := [.int 112]) (rest := []) hC mwX6_takes (c_X6_takes l G q r_2.1 hs 112 hq hI.1 (by decide)) iwX6_takes wd_1086 ⟨rfl, rfl⟩ ⟨Nat.le_of_ble_eq_true rfl, Nat.le_of_ble_eq_true rfl⟩ (stb_h (fun H => PW G (mdW G q r_2.1 hs) H)) (hKN.go hAL hS) hP (va_recv (hKN.go hAL hS).k hP (ci := 6) (q0 := 0) rfl rfl) rfl hl.1 rfl (Nat.le_of_ble_eq_true rfl) dX6_readPart_39 ⟨Nat.zero_le _, Nat.zero_le _⟩) hS (fun _ h => h) (fun _ h => h) (fun H locs hq_3 _ _ hS => ?_)
    have hP : PW G (mdW G q ((fX6_takes r_2.1 112).1) hs) H := hq_3
    obtain ⟨r_4, er_4⟩ : ∃ z, z = fX6_takes r_2.1 112 := ⟨_, rfl⟩
    rw [← er_4] at hP
    show W p l e ({ frames := 4, cells := 0, slots := 0, locals := 86 }) s m ([.ref (q 0)] : List Value).toArray below meth c H locs (0 + 0) (0 + 0) _ (F0 m (39 + 3) ls [.int ((fX6_takes r_2.1 112).2)])
    rw [← er_4]
    have hI : PB r_4.1 := by rw [er_4]; exact (PB_takes hI (by decide))
    refine lv_if_eq (tgt := 82) hC.1 hC.2.1 dX6_readPart_42 (by decide) (fun k42 => ?_) (fun k42 => ?_)
    · refine lv_aload_n hC.1 hC.2.1 dX6_readPart_82 rfl (lv_at hl 0 rfl) ?_
      refine lv_bipush (v := 114) hC.1 hC.2.1 dX6_readPart_83 (by decide +kernel) ?_
      refine runE (rV (B := fun U H => PW G (mdW G q r_4.1 hs) H) (As := [.int 114]) (rest := []) hC mwX6_takes (c_X6_takes l G q r_4.1 hs 114 hq hI.1 (by decide)) iwX6_takes wd_1086 ⟨rfl, rfl⟩ ⟨Nat.le_of_ble_eq_true rfl, Nat.le_of_ble_eq_true rfl⟩ (stb_h (fun H => PW G (mdW G q r_4.1 hs) H)) (hKN.go hAL hS) hP (va_recv (hKN.go hAL hS).k hP (ci := 6) (q0 := 0) rfl rfl) rfl hl.1 rfl (Nat.le_of_ble_eq_true rfl) dX6_readPart_85 ⟨Nat.zero_le _, Nat.zero_le _⟩) hS (fun _ h => h) (fun _ h => h) (fun H locs hq_5 _ _ hS => ?_)
      have hP : PW G (mdW G q ((fX6_takes r_4.1 114).1) hs) H := hq_5
      obtain ⟨r_6, er_6⟩ : ∃ z, z = fX6_takes r_4.1 114 := ⟨_, rfl⟩
      rw [← er_6] at hP
      show W p l e ({ frames := 4, cells := 0, slots := 0, locals := 86 }) s m ([.ref (q 0)] : List Value).toArray below meth c H locs (0 + 0) (0 + 0) _ (F0 m (85 + 3) ls [.int ((fX6_takes r_4.1 114).2)])
      rw [← er_6]
      have hI : PB r_6.1 := by rw [er_6]; exact (PB_takes hI (by decide))
      refine lv_if_eq (tgt := 118) hC.1 hC.2.1 dX6_readPart_88 (by decide) (fun k88 => ?_) (fun k88 => ?_)
      · refine lv_aload_n hC.1 hC.2.1 dX6_readPart_118 rfl (lv_at hl 0 rfl) ?_
        refine lv_bipush (v := 101) hC.1 hC.2.1 dX6_readPart_119 (by decide +kernel) ?_
        refine runE (rV (B := fun U H => PW G (mdW G q r_6.1 hs) H) (As := [.int 101]) (rest := []) hC mwX6_takes (c_X6_takes l G q r_6.1 hs 101 hq hI.1 (by decide)) iwX6_takes wd_1086 ⟨rfl, rfl⟩ ⟨Nat.le_of_ble_eq_true rfl, Nat.le_of_ble_eq_true rfl⟩ (stb_h (fun H => PW G (mdW G q r_6.1 hs) H)) (hKN.go hAL hS) hP (va_recv (hKN.go hAL hS).k hP (ci := 6) (q0 := 0) rfl rfl) rfl hl.1 rfl (Nat.le_of_ble_eq_true rfl) dX6_readPart_121 ⟨Nat.zero_le _, Nat.zero_le _⟩) hS (fun _ h => h) (fun _ h => h) (fun H locs hq_7 _ _ hS => ?_)
        have hP : PW G (mdW G q ((fX6_takes r_6.1 101).1) hs) H := hq_7
        obtain ⟨r_8, er_8⟩ : ∃ z, z = fX6_takes r_6.1 101 := ⟨_, rfl⟩
        rw [← er_8] at hP
        show W p l e ({ frames := 4, cells := 0, slots := 0, locals := 86 }) s m ([.ref (q 0)] : List Value).toArray below meth c H locs (0 + 0) (0 + 0) _ (F0 m (121 + 3) ls [.int ((fX6_takes r_6.1 101).2)])
        rw [← er_8]
        have hI : PB r_8.1 := by rw [er_8]; exact (PB_takes hI (by decide))
        refine lv_if_eq (tgt := 156) hC.1 hC.2.1 dX6_readPart_124 (by decide) (fun k124 => ?_) (fun k124 => ?_)
        · refine lv_iconst (v := 0) hC.1 hC.2.1 dX6_readPart_156 (by decide) ?_
          have e_9 : fX6_readPart v = (r_8.1, 0) := by have q_ := er_8.symm; subst q_; have q_ := er_6.symm; subst q_; have q_ := er_4.symm; subst q_; have q_ := er_2.symm; subst q_; delta fX6_readPart; exact Eq.trans (if_pos k6) (Eq.trans (if_pos k42) (Eq.trans (if_pos k88) (Eq.trans (if_pos k124) rfl)))
          have hg : fX6_readPart v = (r_8.1, 0) := by have e2 := congrArg (fun z => z) e_9; exact hg.trans e2
          exact eE_z hC (by rw [hg]) rfl (by show PW G (mdW G q (fX6_readPart v).1 hs) H; rw [hg]; exact hP) hS dX6_readPart_157
        · refine lv_aload_n hC.1 hC.2.1 dX6_readPart_127 rfl (lv_at hl 0 rfl) ?_
          refine lv_bipush (v := 109) hC.1 hC.2.1 dX6_readPart_128 (by decide +kernel) ?_
          refine lv_bipush (v := 112) hC.1 hC.2.1 dX6_readPart_130 (by decide +kernel) ?_
          refine lv_bipush (v := 116) hC.1 hC.2.1 dX6_readPart_132 (by decide +kernel) ?_
          refine lv_bipush (v := 121) hC.1 hC.2.1 dX6_readPart_134 (by decide +kernel) ?_
          refine runE (rV (B := fun U H => PW G (mdW G q r_8.1 hs) H) (As := [.int 109, .int 112, .int 116, .int 121]) (rest := []) hC mwX6_takesFour (c_X6_takesFour l G q r_8.1 hs 109 112 116 121 hq hI.1 (by decide) (by decide) (by decide)) iwX6_takesFour wd_1094 ⟨rfl, rfl⟩ ⟨Nat.le_of_ble_eq_true rfl, Nat.le_of_ble_eq_true rfl⟩ (stb_h (fun H => PW G (mdW G q r_8.1 hs) H)) (hKN.go hAL hS) hP (va_recv (hKN.go hAL hS).k hP (ci := 6) (q0 := 0) rfl rfl) rfl hl.1 rfl (Nat.le_of_ble_eq_true rfl) dX6_readPart_136 ⟨Nat.zero_le _, Nat.zero_le _⟩) hS (fun _ h => h) (fun _ h => h) (fun H locs hq_10 _ _ hS => ?_)
          have hP : PW G (mdW G q ((fX6_takesFour r_8.1 109 112 116 121).1) hs) H := hq_10
          obtain ⟨r_11, er_11⟩ : ∃ z, z = fX6_takesFour r_8.1 109 112 116 121 := ⟨_, rfl⟩
          rw [← er_11] at hP
          show W p l e ({ frames := 4, cells := 0, slots := 0, locals := 86 }) s m ([.ref (q 0)] : List Value).toArray below meth c H locs (0 + 0) (0 + 0) _ (F0 m (136 + 3) ls [.int ((fX6_takesFour r_8.1 109 112 116 121).2)])
          rw [← er_11]
          have hI : PB r_11.1 := by rw [er_11]; exact (PB_four hI (by decide) (by decide) (by decide))
          refine lv_if_eq (tgt := 156) hC.1 hC.2.1 dX6_readPart_139 (by decide) (fun k139 => ?_) (fun k139 => ?_)
          · refine lv_iconst (v := 0) hC.1 hC.2.1 dX6_readPart_156 (by decide) ?_
            have e_12 : fX6_readPart v = (r_11.1, 0) := by have q_ := er_11.symm; subst q_; have q_ := er_8.symm; subst q_; have q_ := er_6.symm; subst q_; have q_ := er_4.symm; subst q_; have q_ := er_2.symm; subst q_; delta fX6_readPart; exact Eq.trans (if_pos k6) (Eq.trans (if_pos k42) (Eq.trans (if_pos k88) (Eq.trans (if_neg k124) (Eq.trans (if_pos k139) rfl))))
            have hg : fX6_readPart v = (r_11.1, 0) := by have e2 := congrArg (fun z => z) e_12; exact hg.trans e2
            exact eE_z hC (by rw [hg]) rfl (by show PW G (mdW G q (fX6_readPart v).1 hs) H; rw [hg]; exact hP) hS dX6_readPart_157
          · refine lv_aload_n hC.1 hC.2.1 dX6_readPart_142 rfl (lv_at hl 0 rfl) ?_
            refine lv_iconst (v := 0) hC.1 hC.2.1 dX6_readPart_143 (by decide) ?_
            refine lv_iconst (v := 0) hC.1 hC.2.1 dX6_readPart_144 (by decide) ?_
            refine lv_iconst (v := 1) hC.1 hC.2.1 dX6_readPart_145 (by decide) ?_
            refine runE (rV (B := fun U H => PW G (mdW G q r_11.1 hs) H) (As := [.int 0, .int 0, .int 1]) (rest := []) hC mwX6_addPart (c_X6_addPart l G q r_11.1 hs 0 0 1 hq hI.2) iwX6_addPart wd_1106 ⟨rfl, rfl⟩ ⟨Nat.le_of_ble_eq_true rfl, Nat.le_of_ble_eq_true rfl⟩ (stb_h (fun H => PW G (mdW G q r_11.1 hs) H)) (hKN.go hAL hS) hP (va_recv (hKN.go hAL hS).k hP (ci := 6) (q0 := 0) rfl rfl) rfl hl.1 rfl (Nat.le_of_ble_eq_true rfl) dX6_readPart_146 ⟨Nat.zero_le _, Nat.zero_le _⟩) hS (fun _ h => h) (fun _ h => h) (fun H locs hq_13 _ _ hS => ?_)
            have hP : PW G (mdW G q ((fX6_addPart r_11.1 0 0 1).1) hs) H := hq_13
            obtain ⟨r_14, er_14⟩ : ∃ z, z = fX6_addPart r_11.1 0 0 1 := ⟨_, rfl⟩
            rw [← er_14] at hP
            show W p l e ({ frames := 4, cells := 0, slots := 0, locals := 86 }) s m ([.ref (q 0)] : List Value).toArray below meth c H locs (0 + 0) (0 + 0) _ (F0 m (146 + 3) ls [.int ((fX6_addPart r_11.1 0 0 1).2)])
            rw [← er_14]
            have hI : True := trivial
            refine lv_if_eq (tgt := 156) hC.1 hC.2.1 dX6_readPart_149 (by decide) (fun k149 => ?_) (fun k149 => ?_)
            · refine lv_iconst (v := 0) hC.1 hC.2.1 dX6_readPart_156 (by decide) ?_
              have e_15 : fX6_readPart v = (r_14.1, 0) := by have q_ := er_14.symm; subst q_; have q_ := er_11.symm; subst q_; have q_ := er_8.symm; subst q_; have q_ := er_6.symm; subst q_; have q_ := er_4.symm; subst q_; have q_ := er_2.symm; subst q_; delta fX6_readPart; exact Eq.trans (if_pos k6) (Eq.trans (if_pos k42) (Eq.trans (if_pos k88) (Eq.trans (if_neg k124) (Eq.trans (if_neg k139) (Eq.trans (if_pos k149) rfl)))))
              have hg : fX6_readPart v = (r_14.1, 0) := by have e2 := congrArg (fun z => z) e_15; exact hg.trans e2
              exact eE_z hC (by rw [hg]) rfl (by show PW G (mdW G q (fX6_readPart v).1 hs) H; rw [hg]; exact hP) hS dX6_readPart_157
            · refine lv_iconst (v := 1) hC.1 hC.2.1 dX6_readPart_152 (by decide) ?_
              refine lv_goto (tgt := 157) hC.1 hC.2.1 dX6_readPart_153 (by decide) ?_
              have e_16 : fX6_readPart v = (r_14.1, 1) := by have q_ := er_14.symm; subst q_; have q_ := er_11.symm; subst q_; have q_ := er_8.symm; subst q_; have q_ := er_6.symm; subst q_; have q_ := er_4.symm; subst q_; have q_ := er_2.symm; subst q_; delta fX6_readPart; exact Eq.trans (if_pos k6) (Eq.trans (if_pos k42) (Eq.trans (if_pos k88) (Eq.trans (if_neg k124) (Eq.trans (if_neg k139) (Eq.trans (if_neg k149) rfl)))))
              have hg : fX6_readPart v = (r_14.1, 1) := by have e2 := congrArg (fun z => z) e_16; exact hg.trans e2
              exact eE_z hC (by rw [hg]) rfl (by show PW G (mdW G q (fX6_readPart v).1 hs) H; rw [hg]; exact hP) hS dX6_readPart_157
      · refine lv_aload_n hC.1 hC.2.1 dX6_readPart_91 rfl (lv_at hl 0 rfl) ?_
        refine lv_bipush (v := 101) hC.1 hC.2.1 dX6_readPart_92 (by decide +kernel) ?_
        refine lv_bipush (v := 115) hC.1 hC.2.1 dX6_readPart_94 (by decide +kernel) ?_
        refine lv_bipush (v := 116) hC.1 hC.2.1 dX6_readPart_96 (by decide +kernel) ?_
        refine lv_iconst (v := 0) hC.1 hC.2.1 dX6_readPart_98 (by decide) ?_
        refine runE (rV (B := fun U H => PW G (mdW G q r_6.1 hs) H) (As := [.int 101, .int 115, .int 116, .int 0]) (rest := []) hC mwX6_takesFour (c_X6_takesFour l G q r_6.1 hs 101 115 116 0 hq hI.1 (by decide) (by decide) (by decide)) iwX6_takesFour wd_1094 ⟨rfl, rfl⟩ ⟨Nat.le_of_ble_eq_true rfl, Nat.le_of_ble_eq_true rfl⟩ (stb_h (fun H => PW G (mdW G q r_6.1 hs) H)) (hKN.go hAL hS) hP (va_recv (hKN.go hAL hS).k hP (ci := 6) (q0 := 0) rfl rfl) rfl hl.1 rfl (Nat.le_of_ble_eq_true rfl) dX6_readPart_99 ⟨Nat.zero_le _, Nat.zero_le _⟩) hS (fun _ h => h) (fun _ h => h) (fun H locs hq_17 _ _ hS => ?_)
        have hP : PW G (mdW G q ((fX6_takesFour r_6.1 101 115 116 0).1) hs) H := hq_17
        obtain ⟨r_18, er_18⟩ : ∃ z, z = fX6_takesFour r_6.1 101 115 116 0 := ⟨_, rfl⟩
        rw [← er_18] at hP
        show W p l e ({ frames := 4, cells := 0, slots := 0, locals := 86 }) s m ([.ref (q 0)] : List Value).toArray below meth c H locs (0 + 0) (0 + 0) _ (F0 m (99 + 3) ls [.int ((fX6_takesFour r_6.1 101 115 116 0).2)])
        rw [← er_18]
        have hI : PB r_18.1 := by rw [er_18]; exact (PB_four hI (by decide) (by decide) (by decide))
        refine lv_if_eq (tgt := 116) hC.1 hC.2.1 dX6_readPart_102 (by decide) (fun k102 => ?_) (fun k102 => ?_)
        · refine lv_iconst (v := 0) hC.1 hC.2.1 dX6_readPart_116 (by decide) ?_
          have e_19 : fX6_readPart v = (r_18.1, 0) := by have q_ := er_18.symm; subst q_; have q_ := er_6.symm; subst q_; have q_ := er_4.symm; subst q_; have q_ := er_2.symm; subst q_; delta fX6_readPart; exact Eq.trans (if_pos k6) (Eq.trans (if_pos k42) (Eq.trans (if_neg k88) (Eq.trans (if_pos k102) rfl)))
          have hg : fX6_readPart v = (r_18.1, 0) := by have e2 := congrArg (fun z => z) e_19; exact hg.trans e2
          exact eE_z hC (by rw [hg]) rfl (by show PW G (mdW G q (fX6_readPart v).1 hs) H; rw [hg]; exact hP) hS dX6_readPart_117
        · refine lv_aload_n hC.1 hC.2.1 dX6_readPart_105 rfl (lv_at hl 0 rfl) ?_
          refine runE (rV (B := fun U H => PW G (mdW G q r_18.1 hs) H) (As := []) (rest := []) hC mwX6_readRest (c_X6_readRest l G q r_18.1 hs hq hI) iwX6_readRest wd_1114 ⟨rfl, rfl⟩ ⟨Nat.le_of_ble_eq_true rfl, Nat.le_of_ble_eq_true rfl⟩ (stb_h (fun H => PW G (mdW G q r_18.1 hs) H)) (hKN.go hAL hS) hP (va_recv (hKN.go hAL hS).k hP (ci := 6) (q0 := 0) rfl rfl) rfl hl.1 rfl (Nat.le_of_ble_eq_true rfl) dX6_readPart_106 ⟨Nat.zero_le _, Nat.zero_le _⟩) hS (fun _ h => h) (fun _ h => h) (fun H locs hq_20 _ _ hS => ?_)
          have hP : PW G (mdW G q ((fX6_readRest r_18.1).1) hs) H := hq_20
          obtain ⟨r_21, er_21⟩ : ∃ z, z = fX6_readRest r_18.1 := ⟨_, rfl⟩
          rw [← er_21] at hP
          show W p l e ({ frames := 4, cells := 0, slots := 0, locals := 86 }) s m ([.ref (q 0)] : List Value).toArray below meth c H locs (0 + 0) (0 + 0) _ (F0 m (106 + 3) ls [.int ((fX6_readRest r_18.1).2)])
          rw [← er_21]
          have hI : True := trivial
          refine lv_if_eq (tgt := 116) hC.1 hC.2.1 dX6_readPart_109 (by decide) (fun k109 => ?_) (fun k109 => ?_)
          · refine lv_iconst (v := 0) hC.1 hC.2.1 dX6_readPart_116 (by decide) ?_
            have e_22 : fX6_readPart v = (r_21.1, 0) := by have q_ := er_21.symm; subst q_; have q_ := er_18.symm; subst q_; have q_ := er_6.symm; subst q_; have q_ := er_4.symm; subst q_; have q_ := er_2.symm; subst q_; delta fX6_readPart; exact Eq.trans (if_pos k6) (Eq.trans (if_pos k42) (Eq.trans (if_neg k88) (Eq.trans (if_neg k102) (Eq.trans (if_pos k109) rfl))))
            have hg : fX6_readPart v = (r_21.1, 0) := by have e2 := congrArg (fun z => z) e_22; exact hg.trans e2
            exact eE_z hC (by rw [hg]) rfl (by show PW G (mdW G q (fX6_readPart v).1 hs) H; rw [hg]; exact hP) hS dX6_readPart_117
          · refine lv_iconst (v := 1) hC.1 hC.2.1 dX6_readPart_112 (by decide) ?_
            refine lv_goto (tgt := 117) hC.1 hC.2.1 dX6_readPart_113 (by decide) ?_
            have e_23 : fX6_readPart v = (r_21.1, 1) := by have q_ := er_21.symm; subst q_; have q_ := er_18.symm; subst q_; have q_ := er_6.symm; subst q_; have q_ := er_4.symm; subst q_; have q_ := er_2.symm; subst q_; delta fX6_readPart; exact Eq.trans (if_pos k6) (Eq.trans (if_pos k42) (Eq.trans (if_neg k88) (Eq.trans (if_neg k102) (Eq.trans (if_neg k109) rfl))))
            have hg : fX6_readPart v = (r_21.1, 1) := by have e2 := congrArg (fun z => z) e_23; exact hg.trans e2
            exact eE_z hC (by rw [hg]) rfl (by show PW G (mdW G q (fX6_readPart v).1 hs) H; rw [hg]; exact hP) hS dX6_readPart_117
    · refine lv_aload_n hC.1 hC.2.1 dX6_readPart_45 rfl (lv_at hl 0 rfl) ?_
      refine lv_bipush (v := 97) hC.1 hC.2.1 dX6_readPart_46 (by decide +kernel) ?_
      refine lv_bipush (v := 112) hC.1 hC.2.1 dX6_readPart_48 (by decide +kernel) ?_
      refine lv_bipush (v := 101) hC.1 hC.2.1 dX6_readPart_50 (by decide +kernel) ?_
      refine lv_bipush (v := 114) hC.1 hC.2.1 dX6_readPart_52 (by decide +kernel) ?_
      refine runE (rV (B := fun U H => PW G (mdW G q r_4.1 hs) H) (As := [.int 97, .int 112, .int 101, .int 114]) (rest := []) hC mwX6_takesFour (c_X6_takesFour l G q r_4.1 hs 97 112 101 114 hq hI.1 (by decide) (by decide) (by decide)) iwX6_takesFour wd_1094 ⟨rfl, rfl⟩ ⟨Nat.le_of_ble_eq_true rfl, Nat.le_of_ble_eq_true rfl⟩ (stb_h (fun H => PW G (mdW G q r_4.1 hs) H)) (hKN.go hAL hS) hP (va_recv (hKN.go hAL hS).k hP (ci := 6) (q0 := 0) rfl rfl) rfl hl.1 rfl (Nat.le_of_ble_eq_true rfl) dX6_readPart_54 ⟨Nat.zero_le _, Nat.zero_le _⟩) hS (fun _ h => h) (fun _ h => h) (fun H locs hq_24 _ _ hS => ?_)
      have hP : PW G (mdW G q ((fX6_takesFour r_4.1 97 112 101 114).1) hs) H := hq_24
      obtain ⟨r_25, er_25⟩ : ∃ z, z = fX6_takesFour r_4.1 97 112 101 114 := ⟨_, rfl⟩
      rw [← er_25] at hP
      show W p l e ({ frames := 4, cells := 0, slots := 0, locals := 86 }) s m ([.ref (q 0)] : List Value).toArray below meth c H locs (0 + 0) (0 + 0) _ (F0 m (54 + 3) ls [.int ((fX6_takesFour r_4.1 97 112 101 114).2)])
      rw [← er_25]
      have hI : PB r_25.1 := by rw [er_25]; exact (PB_four hI (by decide) (by decide) (by decide))
      refine lv_if_eq (tgt := 80) hC.1 hC.2.1 dX6_readPart_57 (by decide) (fun k57 => ?_) (fun k57 => ?_)
      · refine lv_iconst (v := 0) hC.1 hC.2.1 dX6_readPart_80 (by decide) ?_
        have e_26 : fX6_readPart v = (r_25.1, 0) := by have q_ := er_25.symm; subst q_; have q_ := er_4.symm; subst q_; have q_ := er_2.symm; subst q_; delta fX6_readPart; exact Eq.trans (if_pos k6) (Eq.trans (if_neg k42) (Eq.trans (if_pos k57) rfl))
        have hg : fX6_readPart v = (r_25.1, 0) := by have e2 := congrArg (fun z => z) e_26; exact hg.trans e2
        exact eE_z hC (by rw [hg]) rfl (by show PW G (mdW G q (fX6_readPart v).1 hs) H; rw [hg]; exact hP) hS dX6_readPart_81
      · refine lv_aload_n hC.1 hC.2.1 dX6_readPart_60 rfl (lv_at hl 0 rfl) ?_
        refine lv_bipush (v := 58) hC.1 hC.2.1 dX6_readPart_61 (by decide +kernel) ?_
        refine runE (rV (B := fun U H => PW G (mdW G q r_25.1 hs) H) (As := [.int 58]) (rest := []) hC mwX6_takes (c_X6_takes l G q r_25.1 hs 58 hq hI.1 (by decide)) iwX6_takes wd_1086 ⟨rfl, rfl⟩ ⟨Nat.le_of_ble_eq_true rfl, Nat.le_of_ble_eq_true rfl⟩ (stb_h (fun H => PW G (mdW G q r_25.1 hs) H)) (hKN.go hAL hS) hP (va_recv (hKN.go hAL hS).k hP (ci := 6) (q0 := 0) rfl rfl) rfl hl.1 rfl (Nat.le_of_ble_eq_true rfl) dX6_readPart_63 ⟨Nat.zero_le _, Nat.zero_le _⟩) hS (fun _ h => h) (fun _ h => h) (fun H locs hq_27 _ _ hS => ?_)
        have hP : PW G (mdW G q ((fX6_takes r_25.1 58).1) hs) H := hq_27
        obtain ⟨r_28, er_28⟩ : ∃ z, z = fX6_takes r_25.1 58 := ⟨_, rfl⟩
        rw [← er_28] at hP
        show W p l e ({ frames := 4, cells := 0, slots := 0, locals := 86 }) s m ([.ref (q 0)] : List Value).toArray below meth c H locs (0 + 0) (0 + 0) _ (F0 m (63 + 3) ls [.int ((fX6_takes r_25.1 58).2)])
        rw [← er_28]
        have hI : PB r_28.1 := by rw [er_28]; exact (PB_takes hI (by decide))
        refine lv_if_eq (tgt := 80) hC.1 hC.2.1 dX6_readPart_66 (by decide) (fun k66 => ?_) (fun k66 => ?_)
        · refine lv_iconst (v := 0) hC.1 hC.2.1 dX6_readPart_80 (by decide) ?_
          have e_29 : fX6_readPart v = (r_28.1, 0) := by have q_ := er_28.symm; subst q_; have q_ := er_25.symm; subst q_; have q_ := er_4.symm; subst q_; have q_ := er_2.symm; subst q_; delta fX6_readPart; exact Eq.trans (if_pos k6) (Eq.trans (if_neg k42) (Eq.trans (if_neg k57) (Eq.trans (if_pos k66) rfl)))
          have hg : fX6_readPart v = (r_28.1, 0) := by have e2 := congrArg (fun z => z) e_29; exact hg.trans e2
          exact eE_z hC (by rw [hg]) rfl (by show PW G (mdW G q (fX6_readPart v).1 hs) H; rw [hg]; exact hP) hS dX6_readPart_81
        · refine lv_aload_n hC.1 hC.2.1 dX6_readPart_69 rfl (lv_at hl 0 rfl) ?_
          refine runE (rV (B := fun U H => PW G (mdW G q r_28.1 hs) H) (As := []) (rest := []) hC mwX6_readPaper (c_X6_readPaper l G q r_28.1 hs hq hI) iwX6_readPaper wd_1110 ⟨rfl, rfl⟩ ⟨Nat.le_of_ble_eq_true rfl, Nat.le_of_ble_eq_true rfl⟩ (stb_h (fun H => PW G (mdW G q r_28.1 hs) H)) (hKN.go hAL hS) hP (va_recv (hKN.go hAL hS).k hP (ci := 6) (q0 := 0) rfl rfl) rfl hl.1 rfl (Nat.le_of_ble_eq_true rfl) dX6_readPart_70 ⟨Nat.zero_le _, Nat.zero_le _⟩) hS (fun _ h => h) (fun _ h => h) (fun H locs hq_30 _ _ hS => ?_)
          have hP : PW G (mdW G q ((fX6_readPaper r_28.1).1) hs) H := hq_30
          obtain ⟨r_31, er_31⟩ : ∃ z, z = fX6_readPaper r_28.1 := ⟨_, rfl⟩
          rw [← er_31] at hP
          show W p l e ({ frames := 4, cells := 0, slots := 0, locals := 86 }) s m ([.ref (q 0)] : List Value).toArray below meth c H locs (0 + 0) (0 + 0) _ (F0 m (70 + 3) ls [.int ((fX6_readPaper r_28.1).2)])
          rw [← er_31]
          have hI : True := trivial
          refine lv_if_eq (tgt := 80) hC.1 hC.2.1 dX6_readPart_73 (by decide) (fun k73 => ?_) (fun k73 => ?_)
          · refine lv_iconst (v := 0) hC.1 hC.2.1 dX6_readPart_80 (by decide) ?_
            have e_32 : fX6_readPart v = (r_31.1, 0) := by have q_ := er_31.symm; subst q_; have q_ := er_28.symm; subst q_; have q_ := er_25.symm; subst q_; have q_ := er_4.symm; subst q_; have q_ := er_2.symm; subst q_; delta fX6_readPart; exact Eq.trans (if_pos k6) (Eq.trans (if_neg k42) (Eq.trans (if_neg k57) (Eq.trans (if_neg k66) (Eq.trans (if_pos k73) rfl))))
            have hg : fX6_readPart v = (r_31.1, 0) := by have e2 := congrArg (fun z => z) e_32; exact hg.trans e2
            exact eE_z hC (by rw [hg]) rfl (by show PW G (mdW G q (fX6_readPart v).1 hs) H; rw [hg]; exact hP) hS dX6_readPart_81
          · refine lv_iconst (v := 1) hC.1 hC.2.1 dX6_readPart_76 (by decide) ?_
            refine lv_goto (tgt := 81) hC.1 hC.2.1 dX6_readPart_77 (by decide) ?_
            have e_33 : fX6_readPart v = (r_31.1, 1) := by have q_ := er_31.symm; subst q_; have q_ := er_28.symm; subst q_; have q_ := er_25.symm; subst q_; have q_ := er_4.symm; subst q_; have q_ := er_2.symm; subst q_; delta fX6_readPart; exact Eq.trans (if_pos k6) (Eq.trans (if_neg k42) (Eq.trans (if_neg k57) (Eq.trans (if_neg k66) (Eq.trans (if_neg k73) rfl))))
            have hg : fX6_readPart v = (r_31.1, 1) := by have e2 := congrArg (fun z => z) e_33; exact hg.trans e2
            exact eE_z hC (by rw [hg]) rfl (by show PW G (mdW G q (fX6_readPart v).1 hs) H; rw [hg]; exact hP) hS dX6_readPart_81
  · refine lv_aload_n hC.1 hC.2.1 dX6_readPart_9 rfl (lv_at hl 0 rfl) ?_
    refine lv_bipush (v := 105) hC.1 hC.2.1 dX6_readPart_10 (by decide +kernel) ?_
    refine lv_bipush (v := 110) hC.1 hC.2.1 dX6_readPart_12 (by decide +kernel) ?_
    refine lv_bipush (v := 101) hC.1 hC.2.1 dX6_readPart_14 (by decide +kernel) ?_
    refine lv_iconst (v := 0) hC.1 hC.2.1 dX6_readPart_16 (by decide) ?_
    refine runE (rV (B := fun U H => PW G (mdW G q r_2.1 hs) H) (As := [.int 105, .int 110, .int 101, .int 0]) (rest := []) hC mwX6_takesFour (c_X6_takesFour l G q r_2.1 hs 105 110 101 0 hq hI.1 (by decide) (by decide) (by decide)) iwX6_takesFour wd_1094 ⟨rfl, rfl⟩ ⟨Nat.le_of_ble_eq_true rfl, Nat.le_of_ble_eq_true rfl⟩ (stb_h (fun H => PW G (mdW G q r_2.1 hs) H)) (hKN.go hAL hS) hP (va_recv (hKN.go hAL hS).k hP (ci := 6) (q0 := 0) rfl rfl) rfl hl.1 rfl (Nat.le_of_ble_eq_true rfl) dX6_readPart_17 ⟨Nat.zero_le _, Nat.zero_le _⟩) hS (fun _ h => h) (fun _ h => h) (fun H locs hq_34 _ _ hS => ?_)
    have hP : PW G (mdW G q ((fX6_takesFour r_2.1 105 110 101 0).1) hs) H := hq_34
    obtain ⟨r_35, er_35⟩ : ∃ z, z = fX6_takesFour r_2.1 105 110 101 0 := ⟨_, rfl⟩
    rw [← er_35] at hP
    show W p l e ({ frames := 4, cells := 0, slots := 0, locals := 86 }) s m ([.ref (q 0)] : List Value).toArray below meth c H locs (0 + 0) (0 + 0) _ (F0 m (17 + 3) ls [.int ((fX6_takesFour r_2.1 105 110 101 0).2)])
    rw [← er_35]
    have hI : PB r_35.1 := by rw [er_35]; exact (PB_four hI (by decide) (by decide) (by decide))
    refine lv_if_eq (tgt := 34) hC.1 hC.2.1 dX6_readPart_20 (by decide) (fun k20 => ?_) (fun k20 => ?_)
    · refine lv_iconst (v := 0) hC.1 hC.2.1 dX6_readPart_34 (by decide) ?_
      have e_36 : fX6_readPart v = (r_35.1, 0) := by have q_ := er_35.symm; subst q_; have q_ := er_2.symm; subst q_; delta fX6_readPart; exact Eq.trans (if_neg k6) (Eq.trans (if_pos k20) rfl)
      have hg : fX6_readPart v = (r_35.1, 0) := by have e2 := congrArg (fun z => z) e_36; exact hg.trans e2
      exact eE_z hC (by rw [hg]) rfl (by show PW G (mdW G q (fX6_readPart v).1 hs) H; rw [hg]; exact hP) hS dX6_readPart_35
    · refine lv_aload_n hC.1 hC.2.1 dX6_readPart_23 rfl (lv_at hl 0 rfl) ?_
      refine runE (rV (B := fun U H => PW G (mdW G q r_35.1 hs) H) (As := []) (rest := []) hC mwX6_readLine (c_X6_readLine l G q r_35.1 hs hq hI) iwX6_readLine wd_1098 ⟨rfl, rfl⟩ ⟨Nat.le_of_ble_eq_true rfl, Nat.le_of_ble_eq_true rfl⟩ (stb_h (fun H => PW G (mdW G q r_35.1 hs) H)) (hKN.go hAL hS) hP (va_recv (hKN.go hAL hS).k hP (ci := 6) (q0 := 0) rfl rfl) rfl hl.1 rfl (Nat.le_of_ble_eq_true rfl) dX6_readPart_24 ⟨Nat.zero_le _, Nat.zero_le _⟩) hS (fun _ h => h) (fun _ h => h) (fun H locs hq_37 _ _ hS => ?_)
      have hP : PW G (mdW G q ((fX6_readLine r_35.1).1) hs) H := hq_37
      obtain ⟨r_38, er_38⟩ : ∃ z, z = fX6_readLine r_35.1 := ⟨_, rfl⟩
      rw [← er_38] at hP
      show W p l e ({ frames := 4, cells := 0, slots := 0, locals := 86 }) s m ([.ref (q 0)] : List Value).toArray below meth c H locs (0 + 0) (0 + 0) _ (F0 m (24 + 3) ls [.int ((fX6_readLine r_35.1).2)])
      rw [← er_38]
      have hI : True := trivial
      refine lv_if_eq (tgt := 34) hC.1 hC.2.1 dX6_readPart_27 (by decide) (fun k27 => ?_) (fun k27 => ?_)
      · refine lv_iconst (v := 0) hC.1 hC.2.1 dX6_readPart_34 (by decide) ?_
        have e_39 : fX6_readPart v = (r_38.1, 0) := by have q_ := er_38.symm; subst q_; have q_ := er_35.symm; subst q_; have q_ := er_2.symm; subst q_; delta fX6_readPart; exact Eq.trans (if_neg k6) (Eq.trans (if_neg k20) (Eq.trans (if_pos k27) rfl))
        have hg : fX6_readPart v = (r_38.1, 0) := by have e2 := congrArg (fun z => z) e_39; exact hg.trans e2
        exact eE_z hC (by rw [hg]) rfl (by show PW G (mdW G q (fX6_readPart v).1 hs) H; rw [hg]; exact hP) hS dX6_readPart_35
      · refine lv_iconst (v := 1) hC.1 hC.2.1 dX6_readPart_30 (by decide) ?_
        refine lv_goto (tgt := 35) hC.1 hC.2.1 dX6_readPart_31 (by decide) ?_
        have e_40 : fX6_readPart v = (r_38.1, 1) := by have q_ := er_38.symm; subst q_; have q_ := er_35.symm; subst q_; have q_ := er_2.symm; subst q_; delta fX6_readPart; exact Eq.trans (if_neg k6) (Eq.trans (if_neg k20) (Eq.trans (if_neg k27) rfl))
        have hg : fX6_readPart v = (r_38.1, 1) := by have e2 := congrArg (fun z => z) e_40; exact hg.trans e2
        exact eE_z hC (by rw [hg]) rfl (by show PW G (mdW G q (fX6_readPart v).1 hs) H; rw [hg]; exact hP) hS dX6_readPart_35

theorem dX6_arePrints_0 : decode cX6_arePrints 0 = .ok (.aload_n 0, 1) := by decide +kernel
theorem dX6_arePrints_1 : decode cX6_arePrints 1 = .ok (.iconst 0, 1) := by decide +kernel
theorem dX6_arePrints_2 : decode cX6_arePrints 2 = .ok (.putfield 136, 3) := by decide +kernel
theorem dX6_arePrints_5 : decode cX6_arePrints 5 = .ok (.aload_n 0, 1) := by decide +kernel
theorem dX6_arePrints_6 : decode cX6_arePrints 6 = .ok (.iconst 0, 1) := by decide +kernel
theorem dX6_arePrints_7 : decode cX6_arePrints 7 = .ok (.putfield 145, 3) := by decide +kernel
theorem dX6_arePrints_10 : decode cX6_arePrints 10 = .ok (.aload_n 0, 1) := by decide +kernel
theorem dX6_arePrints_11 : decode cX6_arePrints 11 = .ok (.invokevirtual 168, 3) := by decide +kernel
theorem dX6_arePrints_14 : decode cX6_arePrints 14 = .ok (.istore_n 1, 1) := by decide +kernel
theorem dX6_arePrints_15 : decode cX6_arePrints 15 = .ok (.iload_n 1, 1) := by decide +kernel
theorem dX6_arePrints_16 : decode cX6_arePrints 16 = .ok (.ifCond .eq 20, 3) := by decide +kernel
theorem dX6_arePrints_19 : decode cX6_arePrints 19 = .ok (.aload_n 0, 1) := by decide +kernel
theorem dX6_arePrints_20 : decode cX6_arePrints 20 = .ok (.bipush 59, 2) := by decide +kernel
theorem dX6_arePrints_22 : decode cX6_arePrints 22 = .ok (.invokevirtual 142, 3) := by decide +kernel
theorem dX6_arePrints_25 : decode cX6_arePrints 25 = .ok (.ifCond .eq 11, 3) := by decide +kernel
theorem dX6_arePrints_28 : decode cX6_arePrints 28 = .ok (.aload_n 0, 1) := by decide +kernel
theorem dX6_arePrints_29 : decode cX6_arePrints 29 = .ok (.invokevirtual 168, 3) := by decide +kernel
theorem dX6_arePrints_32 : decode cX6_arePrints 32 = .ok (.istore_n 1, 1) := by decide +kernel
theorem dX6_arePrints_33 : decode cX6_arePrints 33 = .ok (.goto (-18), 3) := by decide +kernel
theorem dX6_arePrints_36 : decode cX6_arePrints 36 = .ok (.iload_n 1, 1) := by decide +kernel
theorem dX6_arePrints_37 : decode cX6_arePrints 37 = .ok (.ifCond .eq 18, 3) := by decide +kernel
theorem dX6_arePrints_40 : decode cX6_arePrints 40 = .ok (.aload_n 0, 1) := by decide +kernel
theorem dX6_arePrints_41 : decode cX6_arePrints 41 = .ok (.getfield 136, 3) := by decide +kernel
theorem dX6_arePrints_44 : decode cX6_arePrints 44 = .ok (.aload_n 0, 1) := by decide +kernel
theorem dX6_arePrints_45 : decode cX6_arePrints 45 = .ok (.getfield 133, 3) := by decide +kernel
theorem dX6_arePrints_48 : decode cX6_arePrints 48 = .ok (.if_icmp .ne 7, 3) := by decide +kernel
theorem dX6_arePrints_51 : decode cX6_arePrints 51 = .ok (.iconst 1, 1) := by decide +kernel
theorem dX6_arePrints_52 : decode cX6_arePrints 52 = .ok (.goto 4, 3) := by decide +kernel
theorem dX6_arePrints_55 : decode cX6_arePrints 55 = .ok (.iconst 0, 1) := by decide +kernel
theorem dX6_arePrints_56 : decode cX6_arePrints 56 = .ok (.ireturn, 1) := by decide +kernel
set_option maxHeartbeats 1000000 in
set_option maxRecDepth 100000 in
theorem c_X6_arePrints (l : Launch) (G : GT) (q : Nat → Nat) (v : SV) (hs : Int64) (hq : mdD G q) (hI : le_n (v 8 6) 60) : Met l yX6_arePrints (Cond.code yX6_arePrints cX6_arePrints 2 (some .boolean) :: bigW) ({ frames := 5, cells := 0, slots := 0, locals := 106 }) (BP G [.ref (q 0)] (fun U H => PW G (mdW G q v hs) H)) (QE (some (.int (fX6_arePrints v).2)) (fun H => PW G (mdW G q (fX6_arePrints v).1 hs) H) (mdA q)) 0 0 (mdA q) := by
  refine met_of (by decide) (Nat.le_of_ble_eq_true rfl) ?_
  intro p e s m below meth c ls hC hKN hB0 hl
  have hP := hB0
  have hl : lv_has ls 2 [(0, .ref (q 0))] := hl
  have hS : va_S (mdA q) s.heap s.heap [] := va_S.rf
  have hAL : ∀ a, (mdA q) a → gL G ≤ a := mdD_low hq
  have hg : fX6_arePrints v = fX6_arePrints v := rfl
  refine lv_aload_n hC.1 hC.2.1 dX6_arePrints_0 rfl (lv_at hl 0 rfl) ?_
  refine lv_iconst (v := 0) hC.1 hC.2.1 dX6_arePrints_1 (by decide) ?_
  refine pf (v := .int 0) (tv := .int) hC fwX6 hKN hP (mdD_D hq v hs) hS 0 rfl rfl 12 (by decide) rfl wd_899 rfl rfl rfl (Nat.le_of_ble_eq_true rfl) dX6_arePrints_2 (fun H locs hq_1 hS => ?_)
  have hP : PW G (mdW G q (mkM (v 0) (v 1) (v 2) (v 3) (v 4) (v 5) (v 6) (v 7) (v 8 0) (v 8 1) (v 8 2) (v 8 3) (v 8 4) (v 8 5) (v 8 6) 0 (v 8 8)) hs) H := hq_1
  have hI : BI (mkM (v 0) (v 1) (v 2) (v 3) (v 4) (v 5) (v 6) (v 7) (v 8 0) (v 8 1) (v 8 2) (v 8 3) (v 8 4) (v 8 5) (v 8 6) 0 (v 8 8)) := (BI_0 hI rfl rfl)
  refine lv_aload_n hC.1 hC.2.1 dX6_arePrints_5 rfl (lv_at hl 0 rfl) ?_
  refine lv_iconst (v := 0) hC.1 hC.2.1 dX6_arePrints_6 (by decide) ?_
  refine pf (v := .int 0) (tv := .int) hC fwX6 (hKN.go hAL hS) hP (mdD_D hq (mkM (v 0) (v 1) (v 2) (v 3) (v 4) (v 5) (v 6) (v 7) (v 8 0) (v 8 1) (v 8 2) (v 8 3) (v 8 4) (v 8 5) (v 8 6) 0 (v 8 8)) hs) hS 0 rfl rfl 13 (by decide) rfl wd_900 rfl rfl rfl (Nat.le_of_ble_eq_true rfl) dX6_arePrints_7 (fun H locs hq_2 hS => ?_)
  have hP : PW G (mdW G q (mkM (v 0) (v 1) (v 2) (v 3) (v 4) (v 5) (v 6) (v 7) (v 8 0) (v 8 1) (v 8 2) (v 8 3) (v 8 4) (v 8 5) (v 8 6) 0 0) hs) H := hq_2
  have hI : RI (mkM (v 0) (v 1) (v 2) (v 3) (v 4) (v 5) (v 6) (v 7) (v 8 0) (v 8 1) (v 8 2) (v 8 3) (v 8 4) (v 8 5) (v 8 6) 0 0) := (RI_0 hI rfl rfl rfl)
  refine lv_aload_n hC.1 hC.2.1 dX6_arePrints_10 rfl (lv_at hl 0 rfl) ?_
  refine runE (rV (B := fun U H => PW G (mdW G q (mkM (v 0) (v 1) (v 2) (v 3) (v 4) (v 5) (v 6) (v 7) (v 8 0) (v 8 1) (v 8 2) (v 8 3) (v 8 4) (v 8 5) (v 8 6) 0 0) hs) H) (As := []) (rest := []) hC mwX6_readPart (c_X6_readPart l G q (mkM (v 0) (v 1) (v 2) (v 3) (v 4) (v 5) (v 6) (v 7) (v 8 0) (v 8 1) (v 8 2) (v 8 3) (v 8 4) (v 8 5) (v 8 6) 0 0) hs hq (PB_RI hI)) iwX6_readPart wd_1082 ⟨rfl, rfl⟩ ⟨Nat.le_of_ble_eq_true rfl, Nat.le_of_ble_eq_true rfl⟩ (stb_h (fun H => PW G (mdW G q (mkM (v 0) (v 1) (v 2) (v 3) (v 4) (v 5) (v 6) (v 7) (v 8 0) (v 8 1) (v 8 2) (v 8 3) (v 8 4) (v 8 5) (v 8 6) 0 0) hs) H)) (hKN.go hAL hS) hP (va_recv (hKN.go hAL hS).k hP (ci := 6) (q0 := 0) rfl rfl) rfl hl.1 rfl (Nat.le_of_ble_eq_true rfl) dX6_arePrints_11 ⟨Nat.zero_le _, Nat.zero_le _⟩) hS (fun _ h => h) (fun _ h => h) (fun H locs hq_3 _ _ hS => ?_)
  have hP : PW G (mdW G q ((fX6_readPart (mkM (v 0) (v 1) (v 2) (v 3) (v 4) (v 5) (v 6) (v 7) (v 8 0) (v 8 1) (v 8 2) (v 8 3) (v 8 4) (v 8 5) (v 8 6) 0 0)).1) hs) H := hq_3
  obtain ⟨r_4, er_4⟩ : ∃ z, z = fX6_readPart (mkM (v 0) (v 1) (v 2) (v 3) (v 4) (v 5) (v 6) (v 7) (v 8 0) (v 8 1) (v 8 2) (v 8 3) (v 8 4) (v 8 5) (v 8 6) 0 0) := ⟨_, rfl⟩
  rw [← er_4] at hP
  show W p l e ({ frames := 5, cells := 0, slots := 0, locals := 106 }) s m ([.ref (q 0)] : List Value).toArray below meth c H locs (0 + 0) (0 + 0) _ (F0 m (11 + 3) ls [.int ((fX6_readPart (mkM (v 0) (v 1) (v 2) (v 3) (v 4) (v 5) (v 6) (v 7) (v 8 0) (v 8 1) (v 8 2) (v 8 3) (v 8 4) (v 8 5) (v 8 6) 0 0)).2)])
  rw [← er_4]
  have hI : QI r_4.1 r_4.2 := by rw [er_4]; exact (QI_readPart hI)
  refine lv_istore_n (lv' := [(1, .int r_4.2), (0, .ref (q 0))]) hC.1 hC.2.1 dX6_arePrints_14 rfl hl (by decide) rfl (fun ls hl => ?_)
  have A15 : ∀ (y1_15 : Int32) (v_15 : SV), fX6_arePrints v = (tX6_arePrints_15 v (y1_15, v_15)) → True → ∀ (H : Heap) (locs : List Loc), PW G (mdW G q v_15 hs) H → va_S (mdA q) s.heap H locs → ∀ (ls : Array Slot), lv_has ls 2 [(0, .ref (q 0)), (1, .int y1_15)] → W p l e ({ frames := 5, cells := 0, slots := 0, locals := 106 }) s m ([.ref (q 0)] : List Value).toArray below meth c H locs 0 0 (MQ below (QE (some (.int (fX6_arePrints v).2)) (fun H => PW G (mdW G q (fX6_arePrints v).1 hs) H) (mdA q)) ([.ref (q 0)] : List Value).toArray s 0 0 (mdA q)) (F0 m 36 ls []) := by
    intro  y1_15 v_15 hg hI H locs hP hS ls hl
    refine lv_iload_n hC.1 hC.2.1 dX6_arePrints_36 rfl (lv_at hl 1 rfl) ?_
    refine lv_if_eq (tgt := 55) hC.1 hC.2.1 dX6_arePrints_37 (by decide) (fun k37 => ?_) (fun k37 => ?_)
    · refine lv_iconst (v := 0) hC.1 hC.2.1 dX6_arePrints_55 (by decide) ?_
      have e_5 : tX6_arePrints_15 v (y1_15, v_15) = (v_15, 0) := by delta tX6_arePrints_15; exact Eq.trans (if_pos k37) rfl
      have hg : fX6_arePrints v = (v_15, 0) := by have e2 := congrArg (fun z => z) e_5; exact hg.trans e2
      exact eE_z hC (by rw [hg]) rfl (by show PW G (mdW G q (fX6_arePrints v).1 hs) H; rw [hg]; exact hP) hS dX6_arePrints_56
    · refine lv_aload_n hC.1 hC.2.1 dX6_arePrints_40 rfl (lv_at hl 0 rfl) ?_
      refine gf (v := .int (v_15 8 7)) hC fwX6 (hKN.go hAL hS) hP 0 rfl rfl 12 (by decide) rfl wd_899 rfl dX6_arePrints_41 ?_
      refine lv_aload_n hC.1 hC.2.1 dX6_arePrints_44 rfl (lv_at hl 0 rfl) ?_
      refine gf (v := .int (v_15 8 6)) hC fwX6 (hKN.go hAL hS) hP 0 rfl rfl 11 (by decide) rfl wd_898 rfl dX6_arePrints_45 ?_
      refine lv_icmp_ne (tgt := 55) hC.1 hC.2.1 dX6_arePrints_48 (by decide) (fun k48 => ?_) (fun k48 => ?_)
      · refine lv_iconst (v := 0) hC.1 hC.2.1 dX6_arePrints_55 (by decide) ?_
        have e_6 : tX6_arePrints_15 v (y1_15, v_15) = (v_15, 0) := by delta tX6_arePrints_15; exact Eq.trans (if_neg k37) (Eq.trans (if_neg k48) rfl)
        have hg : fX6_arePrints v = (v_15, 0) := by have e2 := congrArg (fun z => z) e_6; exact hg.trans e2
        exact eE_z hC (by rw [hg]) rfl (by show PW G (mdW G q (fX6_arePrints v).1 hs) H; rw [hg]; exact hP) hS dX6_arePrints_56
      · refine lv_iconst (v := 1) hC.1 hC.2.1 dX6_arePrints_51 (by decide) ?_
        refine lv_goto (tgt := 56) hC.1 hC.2.1 dX6_arePrints_52 (by decide) ?_
        have e_7 : tX6_arePrints_15 v (y1_15, v_15) = (v_15, 1) := by delta tX6_arePrints_15; exact Eq.trans (if_neg k37) (Eq.trans (if_pos k48) rfl)
        have hg : fX6_arePrints v = (v_15, 1) := by have e2 := congrArg (fun z => z) e_7; exact hg.trans e2
        exact eE_z hC (by rw [hg]) rfl (by show PW G (mdW G q (fX6_arePrints v).1 hs) H; rw [hg]; exact hP) hS dX6_arePrints_56
  have L15 : ∀ (n15 : Nat), ∀ (y1_15 : Int32) (v_15 : SV), lpT n15 (bX6_arePrints_15 v) (y1_15, v_15) → fX6_arePrints v = (tX6_arePrints_15 v (lpB n15 (bX6_arePrints_15 v) (y1_15, v_15))) → QI v_15 y1_15 → ∀ (H : Heap) (locs : List Loc), PW G (mdW G q v_15 hs) H → va_S (mdA q) s.heap H locs → ∀ (ls : Array Slot), lv_has ls 2 [(0, .ref (q 0)), (1, .int y1_15)] → W p l e ({ frames := 5, cells := 0, slots := 0, locals := 106 }) s m ([.ref (q 0)] : List Value).toArray below meth c H locs 0 0 (MQ below (QE (some (.int (fX6_arePrints v).2)) (fun H => PW G (mdW G q (fX6_arePrints v).1 hs) H) (mdA q)) ([.ref (q 0)] : List Value).toArray s 0 0 (mdA q)) (F0 m 15 ls []) := by
    intro n15
    induction n15 with
    | zero =>
      intro y1_15 v_15 hT
      exact hT.elim
    | succ n15 ih =>
      intro y1_15 v_15 hT hg hI H locs hP hS ls hl
      have hg : fX6_arePrints v = (tX6_arePrints_15 v (lpBs n15 (bX6_arePrints_15 v) (bX6_arePrints_15 v (y1_15, v_15)))) := hg
      have hT : lpTs n15 (bX6_arePrints_15 v) (bX6_arePrints_15 v (y1_15, v_15)) := hT
      refine lv_iload_n hC.1 hC.2.1 dX6_arePrints_15 rfl (lv_at hl 1 rfl) ?_
      refine lv_if_eq (tgt := 36) hC.1 hC.2.1 dX6_arePrints_16 (by decide) (fun k16 => ?_) (fun k16 => ?_)
      · have e_8 : bX6_arePrints_15 v (y1_15, v_15) = (false, (y1_15, v_15)) := by delta bX6_arePrints_15; exact Eq.trans (if_pos k16) rfl
        have hg : fX6_arePrints v = (tX6_arePrints_15 v (y1_15, v_15)) := by have e2 := congrArg (fun z => (tX6_arePrints_15 v (lpBs n15 (bX6_arePrints_15 v) z))) e_8; exact hg.trans e2
        have hT : lpTs n15 (bX6_arePrints_15 v) (false, (y1_15, v_15)) := by rw [← e_8]; exact hT
        exact A15  y1_15 v_15 hg trivial _ _ hP hS _ (lv_sub hl [0, 1] rfl)
      · refine lv_aload_n hC.1 hC.2.1 dX6_arePrints_19 rfl (lv_at hl 0 rfl) ?_
        refine lv_bipush (v := 59) hC.1 hC.2.1 dX6_arePrints_20 (by decide +kernel) ?_
        refine runE (rV (B := fun U H => PW G (mdW G q v_15 hs) H) (As := [.int 59]) (rest := []) hC mwX6_takes (c_X6_takes l G q v_15 hs 59 hq ((hI k16).1) (by decide)) iwX6_takes wd_1086 ⟨rfl, rfl⟩ ⟨Nat.le_of_ble_eq_true rfl, Nat.le_of_ble_eq_true rfl⟩ (stb_h (fun H => PW G (mdW G q v_15 hs) H)) (hKN.go hAL hS) hP (va_recv (hKN.go hAL hS).k hP (ci := 6) (q0 := 0) rfl rfl) rfl hl.1 rfl (Nat.le_of_ble_eq_true rfl) dX6_arePrints_22 ⟨Nat.zero_le _, Nat.zero_le _⟩) hS (fun _ h => h) (fun _ h => h) (fun H locs hq_9 _ _ hS => ?_)
        have hP : PW G (mdW G q ((fX6_takes v_15 59).1) hs) H := hq_9
        obtain ⟨r_10, er_10⟩ : ∃ z, z = fX6_takes v_15 59 := ⟨_, rfl⟩
        rw [← er_10] at hP
        show W p l e ({ frames := 5, cells := 0, slots := 0, locals := 106 }) s m ([.ref (q 0)] : List Value).toArray below meth c H locs (0 + 0) (0 + 0) _ (F0 m (22 + 3) ls [.int ((fX6_takes v_15 59).2)])
        rw [← er_10]
        have hI : RI r_10.1 := by rw [er_10]; exact (RI_takes (hI k16) (by decide))
        refine lv_if_eq (tgt := 36) hC.1 hC.2.1 dX6_arePrints_25 (by decide) (fun k25 => ?_) (fun k25 => ?_)
        · have e_11 : bX6_arePrints_15 v (y1_15, v_15) = (false, (y1_15, r_10.1)) := by have q_ := er_10.symm; subst q_; delta bX6_arePrints_15; exact Eq.trans (if_neg k16) (Eq.trans (if_pos k25) rfl)
          have hg : fX6_arePrints v = (tX6_arePrints_15 v (y1_15, r_10.1)) := by have e2 := congrArg (fun z => (tX6_arePrints_15 v (lpBs n15 (bX6_arePrints_15 v) z))) e_11; exact hg.trans e2
          have hT : lpTs n15 (bX6_arePrints_15 v) (false, (y1_15, r_10.1)) := by rw [← e_11]; exact hT
          exact A15  y1_15 r_10.1 hg trivial _ _ hP hS _ (lv_sub hl [0, 1] rfl)
        · refine lv_aload_n hC.1 hC.2.1 dX6_arePrints_28 rfl (lv_at hl 0 rfl) ?_
          refine runE (rV (B := fun U H => PW G (mdW G q r_10.1 hs) H) (As := []) (rest := []) hC mwX6_readPart (c_X6_readPart l G q r_10.1 hs hq (PB_RI hI)) iwX6_readPart wd_1082 ⟨rfl, rfl⟩ ⟨Nat.le_of_ble_eq_true rfl, Nat.le_of_ble_eq_true rfl⟩ (stb_h (fun H => PW G (mdW G q r_10.1 hs) H)) (hKN.go hAL hS) hP (va_recv (hKN.go hAL hS).k hP (ci := 6) (q0 := 0) rfl rfl) rfl hl.1 rfl (Nat.le_of_ble_eq_true rfl) dX6_arePrints_29 ⟨Nat.zero_le _, Nat.zero_le _⟩) hS (fun _ h => h) (fun _ h => h) (fun H locs hq_12 _ _ hS => ?_)
          have hP : PW G (mdW G q ((fX6_readPart r_10.1).1) hs) H := hq_12
          obtain ⟨r_13, er_13⟩ : ∃ z, z = fX6_readPart r_10.1 := ⟨_, rfl⟩
          rw [← er_13] at hP
          show W p l e ({ frames := 5, cells := 0, slots := 0, locals := 106 }) s m ([.ref (q 0)] : List Value).toArray below meth c H locs (0 + 0) (0 + 0) _ (F0 m (29 + 3) ls [.int ((fX6_readPart r_10.1).2)])
          rw [← er_13]
          have hI : QI r_13.1 r_13.2 := by rw [er_13]; exact (QI_readPart hI)
          refine lv_istore_n (lv' := [(1, .int r_13.2), (0, .ref (q 0))]) hC.1 hC.2.1 dX6_arePrints_32 rfl hl (by decide) rfl (fun ls hl => ?_)
          refine lv_goto (tgt := 15) hC.1 hC.2.1 dX6_arePrints_33 (by decide) ?_
          have e_14 : bX6_arePrints_15 v (y1_15, v_15) = (true, (r_13.2, r_13.1)) := by have q_ := er_13.symm; subst q_; have q_ := er_10.symm; subst q_; delta bX6_arePrints_15; exact Eq.trans (if_neg k16) (Eq.trans (if_neg k25) rfl)
          have hg : fX6_arePrints v = (tX6_arePrints_15 v (lpB n15 (bX6_arePrints_15 v) (r_13.2, r_13.1))) := by have e2 := congrArg (fun z => (tX6_arePrints_15 v (lpBs n15 (bX6_arePrints_15 v) z))) e_14; exact hg.trans e2
          have hT : lpTs n15 (bX6_arePrints_15 v) (true, (r_13.2, r_13.1)) := by rw [← e_14]; exact hT
          exact ih r_13.2 r_13.1 (lpT_go hT) hg hI _ _ hP hS _ (lv_sub hl [1, 0] rfl)
  have e_15 : fX6_arePrints v = tX6_arePrints_15 v (lpB (mR + 1) (bX6_arePrints_15 v) (r_4.2, r_4.1)) := by have q_ := er_4.symm; subst q_; delta fX6_arePrints; exact rfl
  have hg : fX6_arePrints v = (tX6_arePrints_15 v (lpB (mR + 1) (bX6_arePrints_15 v) (r_4.2, r_4.1))) := by have e2 := congrArg (fun z => z) e_15; exact hg.trans e2
  exact L15  (mR + 1) r_4.2 r_4.1 (T_arePrints v _ _ hI) hg hI _ _ hP hS _ (lv_sub hl [1, 0] rfl)

theorem dX6_firstError_0 : decode cX6_firstError 0 = .ok (.aload_n 0, 1) := by decide +kernel
theorem dX6_firstError_1 : decode cX6_firstError 1 = .ok (.iconst 0, 1) := by decide +kernel
theorem dX6_firstError_2 : decode cX6_firstError 2 = .ok (.putfield 34, 3) := by decide +kernel
theorem dX6_firstError_5 : decode cX6_firstError 5 = .ok (.aload_n 0, 1) := by decide +kernel
theorem dX6_firstError_6 : decode cX6_firstError 6 = .ok (.invokevirtual 171, 3) := by decide +kernel
theorem dX6_firstError_9 : decode cX6_firstError 9 = .ok (.ifCond .eq 10, 3) := by decide +kernel
theorem dX6_firstError_12 : decode cX6_firstError 12 = .ok (.aload_n 0, 1) := by decide +kernel
theorem dX6_firstError_13 : decode cX6_firstError 13 = .ok (.getfield 133, 3) := by decide +kernel
theorem dX6_firstError_16 : decode cX6_firstError 16 = .ok (.goto 7, 3) := by decide +kernel
theorem dX6_firstError_19 : decode cX6_firstError 19 = .ok (.aload_n 0, 1) := by decide +kernel
theorem dX6_firstError_20 : decode cX6_firstError 20 = .ok (.getfield 136, 3) := by decide +kernel
theorem dX6_firstError_23 : decode cX6_firstError 23 = .ok (.ireturn, 1) := by decide +kernel
set_option maxHeartbeats 1000000 in
set_option maxRecDepth 100000 in
theorem c_X6_firstError (l : Launch) (G : GT) (q : Nat → Nat) (v : SV) (hs : Int64) (hq : mdD G q) (hI : le_n (v 8 6) 60) : Met l yX6_firstError (Cond.code yX6_firstError cX6_firstError 1 (some .int) :: bigW) ({ frames := 6, cells := 0, slots := 0, locals := 127 }) (BP G [.ref (q 0)] (fun U H => PW G (mdW G q v hs) H)) (QE (some (.int (fX6_firstError v).2)) (fun H => PW G (mdW G q (fX6_firstError v).1 hs) H) (mdA q)) 0 0 (mdA q) := by
  refine met_of (by decide) (Nat.le_of_ble_eq_true rfl) ?_
  intro p e s m below meth c ls hC hKN hB0 hl
  have hP := hB0
  have hl : lv_has ls 1 [(0, .ref (q 0))] := hl
  have hS : va_S (mdA q) s.heap s.heap [] := va_S.rf
  have hAL : ∀ a, (mdA q) a → gL G ≤ a := mdD_low hq
  have hg : fX6_firstError v = fX6_firstError v := rfl
  refine lv_aload_n hC.1 hC.2.1 dX6_firstError_0 rfl (lv_at hl 0 rfl) ?_
  refine lv_iconst (v := 0) hC.1 hC.2.1 dX6_firstError_1 (by decide) ?_
  refine pf (v := .int 0) (tv := .int) hC fwX6 hKN hP (mdD_D hq v hs) hS 0 rfl rfl 6 (by decide) rfl wd_893 rfl rfl rfl (Nat.le_of_ble_eq_true rfl) dX6_firstError_2 (fun H locs hq_1 hS => ?_)
  have hP : PW G (mdW G q (mkM (v 0) (v 1) (v 2) (v 3) (v 4) (v 5) (v 6) (v 7) (v 8 0) (v 8 1) 0 (v 8 3) (v 8 4) (v 8 5) (v 8 6) (v 8 7) (v 8 8)) hs) H := hq_1
  have hI : le_n ((mkM (v 0) (v 1) (v 2) (v 3) (v 4) (v 5) (v 6) (v 7) (v 8 0) (v 8 1) 0 (v 8 3) (v 8 4) (v 8 5) (v 8 6) (v 8 7) (v 8 8)) 8 6) 60 := hI
  refine lv_aload_n hC.1 hC.2.1 dX6_firstError_5 rfl (lv_at hl 0 rfl) ?_
  refine runE (rV (B := fun U H => PW G (mdW G q (mkM (v 0) (v 1) (v 2) (v 3) (v 4) (v 5) (v 6) (v 7) (v 8 0) (v 8 1) 0 (v 8 3) (v 8 4) (v 8 5) (v 8 6) (v 8 7) (v 8 8)) hs) H) (As := []) (rest := []) hC mwX6_arePrints (c_X6_arePrints l G q (mkM (v 0) (v 1) (v 2) (v 3) (v 4) (v 5) (v 6) (v 7) (v 8 0) (v 8 1) 0 (v 8 3) (v 8 4) (v 8 5) (v 8 6) (v 8 7) (v 8 8)) hs hq hI) iwX6_arePrints wd_1078 ⟨rfl, rfl⟩ ⟨Nat.le_of_ble_eq_true rfl, Nat.le_of_ble_eq_true rfl⟩ (stb_h (fun H => PW G (mdW G q (mkM (v 0) (v 1) (v 2) (v 3) (v 4) (v 5) (v 6) (v 7) (v 8 0) (v 8 1) 0 (v 8 3) (v 8 4) (v 8 5) (v 8 6) (v 8 7) (v 8 8)) hs) H)) (hKN.go hAL hS) hP (va_recv (hKN.go hAL hS).k hP (ci := 6) (q0 := 0) rfl rfl) rfl hl.1 rfl (Nat.le_of_ble_eq_true rfl) dX6_firstError_6 ⟨Nat.zero_le _, Nat.zero_le _⟩) hS (fun _ h => h) (fun _ h => h) (fun H locs hq_2 _ _ hS => ?_)
  have hP : PW G (mdW G q ((fX6_arePrints (mkM (v 0) (v 1) (v 2) (v 3) (v 4) (v 5) (v 6) (v 7) (v 8 0) (v 8 1) 0 (v 8 3) (v 8 4) (v 8 5) (v 8 6) (v 8 7) (v 8 8))).1) hs) H := hq_2
  obtain ⟨r_3, er_3⟩ : ∃ z, z = fX6_arePrints (mkM (v 0) (v 1) (v 2) (v 3) (v 4) (v 5) (v 6) (v 7) (v 8 0) (v 8 1) 0 (v 8 3) (v 8 4) (v 8 5) (v 8 6) (v 8 7) (v 8 8)) := ⟨_, rfl⟩
  rw [← er_3] at hP
  show W p l e ({ frames := 6, cells := 0, slots := 0, locals := 127 }) s m ([.ref (q 0)] : List Value).toArray below meth c H locs (0 + 0) (0 + 0) _ (F0 m (6 + 3) ls [.int ((fX6_arePrints (mkM (v 0) (v 1) (v 2) (v 3) (v 4) (v 5) (v 6) (v 7) (v 8 0) (v 8 1) 0 (v 8 3) (v 8 4) (v 8 5) (v 8 6) (v 8 7) (v 8 8))).2)])
  rw [← er_3]
  have hI : True := trivial
  refine lv_if_eq (tgt := 19) hC.1 hC.2.1 dX6_firstError_9 (by decide) (fun k9 => ?_) (fun k9 => ?_)
  · refine lv_aload_n hC.1 hC.2.1 dX6_firstError_19 rfl (lv_at hl 0 rfl) ?_
    refine gf (v := .int (r_3.1 8 7)) hC fwX6 (hKN.go hAL hS) hP 0 rfl rfl 12 (by decide) rfl wd_899 rfl dX6_firstError_20 ?_
    have e_4 : fX6_firstError v = (r_3.1, r_3.1 8 7) := by have q_ := er_3.symm; subst q_; delta fX6_firstError; exact Eq.trans (if_pos k9) rfl
    have hg : fX6_firstError v = (r_3.1, r_3.1 8 7) := by have e2 := congrArg (fun z => z) e_4; exact hg.trans e2
    exact eE_i hC (by rw [hg]) (by show PW G (mdW G q (fX6_firstError v).1 hs) H; rw [hg]; exact hP) hS dX6_firstError_23
  · refine lv_aload_n hC.1 hC.2.1 dX6_firstError_12 rfl (lv_at hl 0 rfl) ?_
    refine gf (v := .int (r_3.1 8 6)) hC fwX6 (hKN.go hAL hS) hP 0 rfl rfl 11 (by decide) rfl wd_898 rfl dX6_firstError_13 ?_
    refine lv_goto (tgt := 23) hC.1 hC.2.1 dX6_firstError_16 (by decide) ?_
    have e_5 : fX6_firstError v = (r_3.1, r_3.1 8 6) := by have q_ := er_3.symm; subst q_; delta fX6_firstError; exact Eq.trans (if_neg k9) rfl
    have hg : fX6_firstError v = (r_3.1, r_3.1 8 6) := by have e2 := congrArg (fun z => z) e_5; exact hg.trans e2
    exact eE_i hC (by rw [hg]) (by show PW G (mdW G q (fX6_firstError v).1 hs) H; rw [hg]; exact hP) hS dX6_firstError_23
