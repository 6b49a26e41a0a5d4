def fX6_sign (v : SV) : Int32 := if (v 8 6) ≤ (v 8 7) then (0) else ((v 4) ((v 8 7).toNatClampNeg))
def fX6_takes (v : SV) (x1 : Int32) : SV × Int32 := if (fX6_sign v) = x1 then (let w_4 : Int32 := (v 8 7) + 1; (mkM (v 0) (v 1) (v 2) (v 3) (v 4) (v 5) (v 6) (v 7) (v 8 0) (v 8 1) (v 8 2) (v 8 3) (v 8 4) (v 8 5) (v 8 6) w_4 (v 8 8), 1)) else (let w_1 : Int32 := (v 8 7) + 0; (mkM (v 0) (v 1) (v 2) (v 3) (v 4) (v 5) (v 6) (v 7) (v 8 0) (v 8 1) (v 8 2) (v 8 3) (v 8 4) (v 8 5) (v 8 6) w_1 (v 8 8), 0))
def fX6_takesFour (v : SV) (x1 : Int32) (x2 : Int32) (x3 : Int32) (x4 : Int32) : SV × Int32 := let r_2 := fX6_takes v x1
  if r_2.2 = 0 then ((r_2.1, 0)) else (let r_5 := fX6_takes r_2.1 x2
  if r_5.2 = 0 then ((r_5.1, 0)) else (let r_8 := fX6_takes r_5.1 x3
  if r_8.2 = 0 then ((r_8.1, 0)) else (if x4 = 0 then ((r_8.1, 1)) else (let r_12 := fX6_takes r_8.1 x4
  if r_12.2 = 0 then ((r_12.1, 0)) else ((r_12.1, 1))))))
def fX6_addPart (v : SV) (x1 : Int32) (x2 : Int32) (x3 : Int32) : SV × Int32 := let w_7 : Int32 := (v 8 8) + 1; (mkM (v 0) (v 1) (v 2) (v 3) (v 4) (upd (v 5) ((v 8 8).toNatClampNeg) x1) (upd (v 6) ((v 8 8).toNatClampNeg) x2) (upd (v 7) ((v 8 8).toNatClampNeg) x3) (v 8 0) (v 8 1) (v 8 2) (v 8 3) (v 8 4) (v 8 5) (v 8 6) (v 8 7) w_7, 1)
def tX6_readNumber_2 (v : SV) (x1 : Int32) (s : Int32 × SV) : SV × Int32 := let y2_2 := s.1; let v_2 := s.2; (v_2, y2_2)
def bX6_readNumber_2 (v : SV) (x1 : Int32) (s : Int32 × SV) : Bool × (Int32 × SV) := let y2_2 := s.1; let v_2 := s.2; if y2_2 = 0 then (if (fX6_in (fX6_sign v_2) 49 57) = 0 then ((false, (y2_2, v_2))) else (if x1 < (((10 * y2_2) + (fX6_sign v_2)) - 48) then ((false, (y2_2, v_2))) else (let w_9 : Int32 := (v_2 8 7) + 1; (true, (((10 * y2_2) + (fX6_sign v_2)) - 48, mkM (v_2 0) (v_2 1) (v_2 2) (v_2 3) (v_2 4) (v_2 5) (v_2 6) (v_2 7) (v_2 8 0) (v_2 8 1) (v_2 8 2) (v_2 8 3) (v_2 8 4) (v_2 8 5) (v_2 8 6) w_9 (v_2 8 8)))))) else (if (fX6_in (fX6_sign v_2) 48 57) = 0 then ((false, (y2_2, v_2))) else (if x1 < (((10 * y2_2) + (fX6_sign v_2)) - 48) then ((false, (y2_2, v_2))) else (let w_4 : Int32 := (v_2 8 7) + 1; (true, (((10 * y2_2) + (fX6_sign v_2)) - 48, mkM (v_2 0) (v_2 1) (v_2 2) (v_2 3) (v_2 4) (v_2 5) (v_2 6) (v_2 7) (v_2 8 0) (v_2 8 1) (v_2 8 2) (v_2 8 3) (v_2 8 4) (v_2 8 5) (v_2 8 6) w_4 (v_2 8 8))))))
def fX6_readNumber (v : SV) (x1 : Int32) : SV × Int32 := tX6_readNumber_2 v x1 (lpB (mR + 1) (bX6_readNumber_2 v x1) (0, v))
def tX6_readLine_4 (v : SV) (s : Int32 × SV) : SV × Int32 := let y1_4 := s.1; let v_4 := s.2; let r_2 := fX6_takes v_4 42
  if r_2.2 = 0 then (let r_4 := fX6_addPart r_2.1 0 y1_4 1
  if r_4.2 = 0 then ((r_4.1, 0)) else ((r_4.1, 1))) else (let r_8 := fX6_readNumber r_2.1 20
  if r_8.2 ≤ 0 then ((r_8.1, 0)) else (let r_11 := fX6_addPart r_8.1 0 y1_4 r_8.2
  if r_11.2 = 0 then ((r_11.1, 0)) else ((r_11.1, 1))))
def bX6_readLine_4 (v : SV) (d4 : Nat) (s : Int32 × SV) : (Int32 × SV) ⊕ (SV × Int32) := let y1_4 := s.1; let v_4 := s.2; if (fX6_in (fX6_sign v_4) 48 57) = 0 then (if (fX6_in (fX6_sign v_4) 97 102) = 0 then (Sum.inr (v_4, 0)) else (if (((fX6_sign v_4) - 97) + 10) = (-1) then (Sum.inr (v_4, 0)) else (let w_15 : Int32 := (v_4 8 7) + 1; Sum.inl ((16 * y1_4) + (((fX6_sign v_4) - 97) + 10), mkM (v_4 0) (v_4 1) (v_4 2) (v_4 3) (v_4 4) (v_4 5) (v_4 6) (v_4 7) (v_4 8 0) (v_4 8 1) (v_4 8 2) (v_4 8 3) (v_4 8 4) (v_4 8 5) (v_4 8 6) w_15 (v_4 8 8))))) else (if ((fX6_sign v_4) - 48) = (-1) then (Sum.inr (v_4, 0)) else (let w_19 : Int32 := (v_4 8 7) + 1; Sum.inl ((16 * y1_4) + ((fX6_sign v_4) - 48), mkM (v_4 0) (v_4 1) (v_4 2) (v_4 3) (v_4 4) (v_4 5) (v_4 6) (v_4 7) (v_4 8 0) (v_4 8 1) (v_4 8 2) (v_4 8 3) (v_4 8 4) (v_4 8 5) (v_4 8 6) w_19 (v_4 8 8))))
def fX6_readLine (v : SV) : SV × Int32 := Sum.elim (tX6_readLine_4 v) id (lpR 6 0 (bX6_readLine_4 v) (0, v))
/-- the buffer's length and the place in it -/
def BI (v : SV) : Prop := le_n (v 8 6) 60 ∧ le_n (v 8 7) (v 8 6).toNatClampNeg
def PB (v : SV) : Prop := BI v ∧ le_n (v 8 8) 15
theorem sp_lt {v : SV} (h : BI v) (k : ¬ v 8 6 ≤ v 8 7) : (v 8 7).toNatClampNeg < (v 8 6).toNatClampNeg := by
  rcases Nat.lt_or_ge (v 8 7).toNatClampNeg (v 8 6).toNatClampNeg with z | z
  · exact z
  · exact absurd (show v 8 6 ≤ v 8 7 by rw [(lq h.2).trans ((congrArg nI (Nat.le_antisymm h.2.2 z)).trans (lq h.1).symm)]; exact Int32.le_refl _) k
theorem BI_lt {v : SV} (h : BI v) (k : ¬ v 8 6 ≤ v 8 7) : (v 8 7).toNatClampNeg < 60 := Nat.lt_of_lt_of_le (sp_lt h k) h.1.2
theorem sign_ne {v : SV} (h : BI v) (k : ¬ fX6_sign v = 0) : (v 8 7).toNatClampNeg < (v 8 6).toNatClampNeg := by
  by_cases c : v 8 6 ≤ v 8 7
  · exact absurd (show fX6_sign v = 0 from if_pos c) k
  · exact sp_lt h c
theorem sp_inc {v : SV} (h : BI v) : v 8 7 + 1 = nI ((v 8 7).toNatClampNeg + 1) := by
  have e := lq h.2
  generalize (v 8 7).toNatClampNeg = n at e ⊢
  rw [e]; exact nI_1 n
theorem sp_inc' {v : SV} (h : BI v) : (v 8 7 + 1).toNatClampNeg = (v 8 7).toNatClampNeg + 1 := by
  rw [sp_inc h, nI_clamp]
  have a := h.1.2
  have b := h.2.2
  omega
theorem BI_inc {v : SV} {x y : Int32} (e : y = v 8 7 + 1) (h : BI v) (k : fX6_sign v = x) (ha : ¬ x = 0) {u : SV} (e6 : u 8 6 = v 8 6) (e7 : u 8 7 = y) : BI u := by
  have l := sign_ne h (by rw [k]; exact ha)
  unfold BI
  rw [e6, e7, e, sp_inc h]
  exact ⟨h.1, le_n_nI l (by have := h.1.2; omega)⟩
theorem BI_add0 {v : SV} {y : Int32} (e : y = v 8 7 + 0) (h : BI v) {u : SV} (e6 : u 8 6 = v 8 6) (e7 : u 8 7 = y) : BI u := by
  unfold BI
  rw [e6, e7, e, Int32.add_zero]
  exact h
theorem in_ne0 {x a b : Int32} (ha : (0 : Int32) < a) (k : ¬ fX6_in x a b = 0) : ¬ x = 0 := by
  intro e
  apply k
  rw [e]
  exact if_pos ha
/-- all but the place in the buffer -/
def FR7 (v w : SV) : Prop := (∀ j, j < 8 → w j = v j) ∧ ∀ k, ¬ k = 7 → k < 9 → w 8 k = v 8 k
theorem FR7.rf (v : SV) : FR7 v v := ⟨fun _ _ => rfl, fun _ _ _ => rfl⟩
theorem FR7.tr {a b c : SV} (h1 : FR7 a b) (h2 : FR7 b c) : FR7 a c := ⟨fun j hj => (h2.1 j hj).trans (h1.1 j hj), fun k a b => (h2.2 k a b).trans (h1.2 k a b)⟩
theorem FR7.mk (v : SV) (y : Int32) : FR7 v (mkM (v 0) (v 1) (v 2) (v 3) (v 4) (v 5) (v 6) (v 7) (v 8 0) (v 8 1) (v 8 2) (v 8 3) (v 8 4) (v 8 5) (v 8 6) y (v 8 8)) := by
  refine ⟨fun j hj => ?_, fun k h1 h2 => ?_⟩
  · match j, hj with
    | 0, _ => rfl
    | 1, _ => rfl
    | 2, _ => rfl
    | 3, _ => rfl
    | 4, _ => rfl
    | 5, _ => rfl
    | 6, _ => rfl
    | 7, _ => rfl
    | j + 8, h => exact absurd h (by omega)
  · match k, h1, h2 with
    | 0, _, _ => rfl
    | 1, _, _ => rfl
    | 2, _, _ => rfl
    | 3, _, _ => rfl
    | 4, _, _ => rfl
    | 5, _, _ => rfl
    | 6, _, _ => rfl
    | 7, h, _ => exact absurd rfl h
    | 8, _, _ => rfl
    | k + 9, _, h => exact absurd h (by omega)
theorem takes_spec {v : SV} {a : Int32} (h : BI v) (ha : ¬ a = 0) : BI (fX6_takes v a).1 ∧ FR7 v (fX6_takes v a).1 ∧ (((fX6_takes v a).2 = 0 ∧ ((fX6_takes v a).1 8 7).toNatClampNeg = (v 8 7).toNatClampNeg) ∨ ((fX6_takes v a).2 = 1 ∧ ((fX6_takes v a).1 8 7).toNatClampNeg = (v 8 7).toNatClampNeg + 1)) := by
  unfold fX6_takes
  dsimp only
  split
  · rename_i q
    exact ⟨BI_inc rfl h q ha rfl rfl, FR7.mk v _, Or.inr ⟨rfl, sp_inc' h⟩⟩
  · refine ⟨BI_add0 rfl h rfl rfl, FR7.mk v _, Or.inl ⟨rfl, ?_⟩⟩
    show (v 8 7 + 0).toNatClampNeg = _
    rw [Int32.add_zero]
theorem I_takes {v : SV} {a : Int32} (h : BI v) (ha : ¬ a = 0) : BI (fX6_takes v a).1 := (takes_spec h ha).1
theorem PB_fr {v w : SV} (h : PB v) (h1 : BI w) (h2 : FR7 v w) : PB w := ⟨h1, by rw [h2.2 8 (by omega) (by omega)]; exact h.2⟩
theorem PB_takes {v : SV} {a : Int32} (h : PB v) (ha : ¬ a = 0) : PB (fX6_takes v a).1 := PB_fr h (takes_spec h.1 ha).1 (takes_spec h.1 ha).2.1
theorem four_spec {v : SV} {a b c d : Int32} (h : BI v) (ha : ¬ a = 0) (hb : ¬ b = 0) (hc : ¬ c = 0) : BI (fX6_takesFour v a b c d).1 ∧ FR7 v (fX6_takesFour v a b c d).1 ∧ (¬ (fX6_takesFour v a b c d).2 = 0 → (v 8 7).toNatClampNeg + 3 ≤ ((fX6_takesFour v a b c d).1 8 7).toNatClampNeg) := by
  unfold fX6_takesFour
  dsimp only
  have s1 := takes_spec h ha
  generalize fX6_takes v a = r1 at s1 ⊢
  split
  · exact ⟨s1.1, s1.2.1, fun z => absurd rfl z⟩
  · rename_i n1
    have c1 : (r1.1 8 7).toNatClampNeg = (v 8 7).toNatClampNeg + 1 := s1.2.2.elim (fun z => absurd z.1 n1) (fun z => z.2)
    have s2 := takes_spec s1.1 hb
    generalize fX6_takes r1.1 b = r2 at s2 ⊢
    split
    · exact ⟨s2.1, s1.2.1.tr s2.2.1, fun z => absurd rfl z⟩
    · rename_i n2
      have c2 := s2.2.2.elim (fun z => absurd z.1 n2) (fun z => z.2)
      have s3 := takes_spec s2.1 hc
      generalize fX6_takes r2.1 c = r3 at s3 ⊢
      split
      · exact ⟨s3.1, (s1.2.1.tr s2.2.1).tr s3.2.1, fun z => absurd rfl z⟩
      · rename_i n3
        have c3 := s3.2.2.elim (fun z => absurd z.1 n3) (fun z => z.2)
        split
        · exact ⟨s3.1, (s1.2.1.tr s2.2.1).tr s3.2.1, fun _ => by show _ ≤ (r3.1 8 7).toNatClampNeg; omega⟩
        · rename_i n4
          have s4 := takes_spec s3.1 n4
          generalize fX6_takes r3.1 d = r4 at s4 ⊢
          split
          · exact ⟨s4.1, ((s1.2.1.tr s2.2.1).tr s3.2.1).tr s4.2.1, fun z => absurd rfl z⟩
          · rename_i n5
            have c4 := s4.2.2.elim (fun z => absurd z.1 n5) (fun z => z.2)
            exact ⟨s4.1, ((s1.2.1.tr s2.2.1).tr s3.2.1).tr s4.2.1, fun _ => by show _ ≤ (r4.1 8 7).toNatClampNeg; omega⟩
theorem PB_four {v : SV} {a b c d : Int32} (h : PB v) (ha : ¬ a = 0) (hb : ¬ b = 0) (hc : ¬ c = 0) : PB (fX6_takesFour v a b c d).1 := PB_fr h (four_spec h.1 ha hb hc).1 (four_spec h.1 ha hb hc).2.1
theorem rn_step (v : SV) (x1 y : Int32) (w : SV) (h : BI w) : (bX6_readNumber_2 v x1 (y, w)).1 = false ∧ (bX6_readNumber_2 v x1 (y, w)).2.2 = w ∨ ¬ fX6_sign w = 0 ∧ (bX6_readNumber_2 v x1 (y, w)).2.2 = mkM (w 0) (w 1) (w 2) (w 3) (w 4) (w 5) (w 6) (w 7) (w 8 0) (w 8 1) (w 8 2) (w 8 3) (w 8 4) (w 8 5) (w 8 6) (w 8 7 + 1) (w 8 8) := by
  unfold bX6_readNumber_2
  dsimp only
  split
  · split
    · exact Or.inl ⟨rfl, rfl⟩
    · rename_i k
      split
      · exact Or.inl ⟨rfl, rfl⟩
      · exact Or.inr ⟨in_ne0 (by decide) k, rfl⟩
  · split
    · exact Or.inl ⟨rfl, rfl⟩
    · rename_i k
      split
      · exact Or.inl ⟨rfl, rfl⟩
      · exact Or.inr ⟨in_ne0 (by decide) k, rfl⟩
theorem rn_inv (v : SV) (x1 y : Int32) (w : SV) (h : BI w) : BI (bX6_readNumber_2 v x1 (y, w)).2.2 ∧ FR7 w (bX6_readNumber_2 v x1 (y, w)).2.2 ∧ (w 8 7).toNatClampNeg ≤ ((bX6_readNumber_2 v x1 (y, w)).2.2 8 7).toNatClampNeg := by
  rcases rn_step v x1 y w h with ⟨-, e⟩ | ⟨k, e⟩
  · rw [e]; exact ⟨h, FR7.rf w, Nat.le_refl _⟩
  · rw [e]
    refine ⟨BI_inc rfl h rfl k rfl rfl, FR7.mk w _, ?_⟩
    show _ ≤ (w 8 7 + 1).toNatClampNeg
    rw [sp_inc' h]; omega
theorem T_readNumber_N (v : SV) (x1 : Int32) : ∀ (n : Nat) (y : Int32) (w : SV), BI w → (w 8 6).toNatClampNeg ≤ (w 8 7).toNatClampNeg + n → lpT (n + 1) (bX6_readNumber_2 v x1) (y, w) := by
  intro n
  induction n with
  | zero =>
    intro y w h hn
    rcases rn_step v x1 y w h with ⟨e, -⟩ | ⟨k, -⟩
    · exact Or.inl e
    · exact absurd (sign_ne h k) (by omega)
  | succ n ih =>
    intro y w h hn
    rcases rn_step v x1 y w h with ⟨e, -⟩ | ⟨k, e⟩
    · exact Or.inl e
    · refine Or.inr ?_
      have i := (rn_inv v x1 y w h).1
      have q : (bX6_readNumber_2 v x1 (y, w)).2 = ((bX6_readNumber_2 v x1 (y, w)).2.1, (bX6_readNumber_2 v x1 (y, w)).2.2) := rfl
      rw [q]
      generalize (bX6_readNumber_2 v x1 (y, w)).2.1 = y2
      rw [e] at i ⊢
      refine ih y2 _ i ?_
      show (w 8 6).toNatClampNeg ≤ (w 8 7 + 1).toNatClampNeg + n
      rw [sp_inc' h]; omega
theorem T_readNumber (v : SV) (x1 y : Int32) (w : SV) (h : BI w) : lpT (mR + 1) (bX6_readNumber_2 v x1) (y, w) := T_readNumber_N v x1 mR y w h (by have := h.1.2; show _ ≤ _ + 60; omega)
theorem rn_spec (v : SV) (x1 : Int32) (h : BI v) : BI (fX6_readNumber v x1).1 ∧ FR7 v (fX6_readNumber v x1).1 ∧ (v 8 7).toNatClampNeg ≤ ((fX6_readNumber v x1).1 8 7).toNatClampNeg := by
  have k : ∀ n, BI (lpB n (bX6_readNumber_2 v x1) (0, v)).2 ∧ FR7 v (lpB n (bX6_readNumber_2 v x1) (0, v)).2 ∧ (v 8 7).toNatClampNeg ≤ ((lpB n (bX6_readNumber_2 v x1) (0, v)).2 8 7).toNatClampNeg := by
    intro n
    refine lpB_inv (fun s : Int32 × SV => BI s.2 ∧ FR7 v s.2 ∧ (v 8 7).toNatClampNeg ≤ (s.2 8 7).toNatClampNeg) (fun s hs => ?_) n (0, v) ⟨h, FR7.rf v, Nat.le_refl _⟩
    obtain ⟨y, w⟩ := s
    have i := rn_inv v x1 y w hs.1
    exact ⟨i.1, hs.2.1.tr i.2.1, Nat.le_trans hs.2.2 i.2.2⟩
  exact k (mR + 1)
theorem PB_readNumber {v : SV} (x1 : Int32) (h : PB v) : PB (fX6_readNumber v x1).1 := PB_fr h (rn_spec v x1 h.1).1 (rn_spec v x1 h.1).2.1
theorem dX6_sign_0 : decode cX6_sign 0 = .ok (.aload_n 0, 1) := by decide +kernel
theorem dX6_sign_1 : decode cX6_sign 1 = .ok (.getfield 136, 3) := by decide +kernel
theorem dX6_sign_4 : decode cX6_sign 4 = .ok (.aload_n 0, 1) := by decide +kernel
theorem dX6_sign_5 : decode cX6_sign 5 = .ok (.getfield 133, 3) := by decide +kernel
theorem dX6_sign_8 : decode cX6_sign 8 = .ok (.if_icmp .ge 15, 3) := by decide +kernel
theorem dX6_sign_11 : decode cX6_sign 11 = .ok (.aload_n 0, 1) := by decide +kernel
theorem dX6_sign_12 : decode cX6_sign 12 = .ok (.getfield 22, 3) := by decide +kernel
theorem dX6_sign_15 : decode cX6_sign 15 = .ok (.aload_n 0, 1) := by decide +kernel
theorem dX6_sign_16 : decode cX6_sign 16 = .ok (.getfield 136, 3) := by decide +kernel
theorem dX6_sign_19 : decode cX6_sign 19 = .ok (.iaload, 1) := by decide +kernel
theorem dX6_sign_20 : decode cX6_sign 20 = .ok (.goto 4, 3) := by decide +kernel
theorem dX6_sign_23 : decode cX6_sign 23 = .ok (.iconst 0, 1) := by decide +kernel
theorem dX6_sign_24 : decode cX6_sign 24 = .ok (.ireturn, 1) := by decide +kernel
set_option maxHeartbeats 1000000 in
set_option maxRecDepth 100000 in
theorem c_X6_sign (l : Launch) (G : GT) (q : Nat → Nat) (v : SV) (hs : Int64) (hI : BI v) : Met l yX6_sign (Cond.code yX6_sign cX6_sign 1 (some .int) :: bigW) ({ frames := 0, cells := 0, slots := 0, locals := 0 }) (BP G [.ref (q 0)] (fun U H => PW G (mdW G q v hs) H)) (QP (.int (fX6_sign v))) 0 0 (fun _ => False) := by
  refine met_of (by decide) (Nat.le_of_ble_eq_true rfl) ?_
  intro p e s m below meth c ls hC hKN hB0 hl
  have hP := hB0
  have hl : lv_has ls 1 [(0, .ref (q 0))] := hl
  have hg : fX6_sign v = fX6_sign v := rfl
  refine lv_aload_n hC.1 hC.2.1 dX6_sign_0 rfl (lv_at hl 0 rfl) ?_
  refine gf (v := .int (v 8 7)) hC fwX6 hKN hP 0 rfl rfl 12 (by decide) rfl wd_899 rfl dX6_sign_1 ?_
  refine lv_aload_n hC.1 hC.2.1 dX6_sign_4 rfl (lv_at hl 0 rfl) ?_
  refine gf (v := .int (v 8 6)) hC fwX6 hKN hP 0 rfl rfl 11 (by decide) rfl wd_898 rfl dX6_sign_5 ?_
  refine lv_icmp_ge (tgt := 23) hC.1 hC.2.1 dX6_sign_8 (by decide) (fun k8 => ?_) (fun k8 => ?_)
  · refine lv_iconst (v := 0) hC.1 hC.2.1 dX6_sign_23 (by decide) ?_
    have e_1 : fX6_sign v = 0 := by delta fX6_sign; exact Eq.trans (if_pos k8) rfl
    have hg : fX6_sign v = 0 := by have e2 := congrArg (fun z => z) e_1; exact hg.trans e2
    exact eP_i hC (congrArg Value.int hg) dX6_sign_24
  · refine lv_aload_n hC.1 hC.2.1 dX6_sign_11 rfl (lv_at hl 0 rfl) ?_
    refine gf (v := .ref (q 5)) hC fwX6 hKN hP 0 rfl rfl 10 (by decide) rfl wd_897 rfl dX6_sign_12 ?_
    refine lv_aload_n hC.1 hC.2.1 dX6_sign_15 rfl (lv_at hl 0 rfl) ?_
    refine gf (v := .int (v 8 7)) hC fwX6 hKN hP 0 rfl rfl 12 (by decide) rfl wd_899 rfl dX6_sign_16 ?_
    refine lv_topi (fun w_2 ew_2 => ?_)
    rw [show w_2 = nI ((v 8 7).toNatClampNeg) from ew_2.trans (lq hI.2)]
    refine iald_k hC hKN hP 5 rfl (n := 60) (f := (v 4)) ((v 8 7).toNatClampNeg) (rfl) (BI_lt hI k8) (by decide) dX6_sign_19 ?_
    refine lv_goto (tgt := 24) hC.1 hC.2.1 dX6_sign_20 (by decide) ?_
    have e_3 : fX6_sign v = (v 4) ((v 8 7).toNatClampNeg) := by delta fX6_sign; exact Eq.trans (if_neg k8) rfl
    have hg : fX6_sign v = (v 4) ((v 8 7).toNatClampNeg) := by have e2 := congrArg (fun z => z) e_3; exact hg.trans e2
    exact eP_i hC (congrArg Value.int hg) dX6_sign_24

theorem dX6_takes_0 : decode cX6_takes 0 = .ok (.aload_n 0, 1) := by decide +kernel
theorem dX6_takes_1 : decode cX6_takes 1 = .ok (.invokevirtual 139, 3) := by decide +kernel
theorem dX6_takes_4 : decode cX6_takes 4 = .ok (.iload_n 1, 1) := by decide +kernel
theorem dX6_takes_5 : decode cX6_takes 5 = .ok (.if_icmp .ne 7, 3) := by decide +kernel
theorem dX6_takes_8 : decode cX6_takes 8 = .ok (.iconst 1, 1) := by decide +kernel
theorem dX6_takes_9 : decode cX6_takes 9 = .ok (.goto 4, 3) := by decide +kernel
theorem dX6_takes_12 : decode cX6_takes 12 = .ok (.iconst 0, 1) := by decide +kernel
theorem dX6_takes_13 : decode cX6_takes 13 = .ok (.istore_n 2, 1) := by decide +kernel
theorem dX6_takes_14 : decode cX6_takes 14 = .ok (.aload_n 0, 1) := by decide +kernel
theorem dX6_takes_15 : decode cX6_takes 15 = .ok (.dup, 1) := by decide +kernel
theorem dX6_takes_16 : decode cX6_takes 16 = .ok (.getfield 136, 3) := by decide +kernel
theorem dX6_takes_19 : decode cX6_takes 19 = .ok (.iload_n 2, 1) := by decide +kernel
theorem dX6_takes_20 : decode cX6_takes 20 = .ok (.ifCond .eq 7, 3) := by decide +kernel
theorem dX6_takes_23 : decode cX6_takes 23 = .ok (.iconst 1, 1) := by decide +kernel
theorem dX6_takes_24 : decode cX6_takes 24 = .ok (.goto 4, 3) := by decide +kernel
theorem dX6_takes_27 : decode cX6_takes 27 = .ok (.iconst 0, 1) := by decide +kernel
theorem dX6_takes_28 : decode cX6_takes 28 = .ok (.iadd, 1) := by decide +kernel
theorem dX6_takes_29 : decode cX6_takes 29 = .ok (.putfield 136, 3) := by decide +kernel
theorem dX6_takes_32 : decode cX6_takes 32 = .ok (.iload_n 2, 1) := by decide +kernel
theorem dX6_takes_33 : decode cX6_takes 33 = .ok (.ireturn, 1) := by decide +kernel
set_option maxHeartbeats 1000000 in
set_option maxRecDepth 100000 in
theorem c_X6_takes (l : Launch) (G : GT) (q : Nat → Nat) (v : SV) (hs : Int64) (x1 : Int32) (hq : mdD G q) (hI : BI v) (ha : ¬ x1 = 0) : Met l yX6_takes (Cond.code yX6_takes cX6_takes 3 (some .boolean) :: bigW) ({ frames := 1, cells := 0, slots := 0, locals := 20 }) (BP G [.ref (q 0), .int x1] (fun U H => PW G (mdW G q v hs) H)) (QE (some (.int (fX6_takes v x1).2)) (fun H => PW G (mdW G q (fX6_takes v x1).1 hs) H) (mdA q)) 0 0 (mdA q) := by
  refine met_of (by decide) (Nat.le_of_ble_eq_true rfl) ?_
  intro p e s m below meth c ls hC hKN hB0 hl
  have hP := hB0
  have hl : lv_has ls 3 [(0, .ref (q 0)), (1, .int x1)] := hl
  have hS : va_S (mdA q) s.heap s.heap [] := va_S.rf
  have hAL : ∀ a, (mdA q) a → gL G ≤ a := mdD_low hq
  have hg : fX6_takes v x1 = fX6_takes v x1 := rfl
  refine lv_aload_n hC.1 hC.2.1 dX6_takes_0 rfl (lv_at hl 0 rfl) ?_
  refine runP (rV (B := fun U H => PW G (mdW G q v hs) H) (As := []) (rest := []) hC mwX6_sign (c_X6_sign l G q v hs hI) iwX6_sign wd_1090 ⟨rfl, rfl⟩ ⟨Nat.le_of_ble_eq_true rfl, Nat.le_of_ble_eq_true rfl⟩ (stb_h (fun H => PW G (mdW G q v hs) H)) hKN hP (va_recv hKN.k hP (ci := 6) (q0 := 0) rfl rfl) rfl hl.1 rfl (Nat.le_of_ble_eq_true rfl) dX6_takes_1 ⟨Nat.zero_le _, Nat.zero_le _⟩) ?_
  refine lv_iload_n hC.1 hC.2.1 dX6_takes_4 rfl (lv_at hl 1 rfl) ?_
  refine lv_icmp_ne (tgt := 12) hC.1 hC.2.1 dX6_takes_5 (by decide) (fun k5 => ?_) (fun k5 => ?_)
  · refine lv_iconst (v := 0) hC.1 hC.2.1 dX6_takes_12 (by decide) ?_
    refine lv_istore_n (lv' := [(2, .int 0), (0, .ref (q 0)), (1, .int x1)]) hC.1 hC.2.1 dX6_takes_13 rfl hl (by decide) rfl (fun ls hl => ?_)
    refine lv_aload_n hC.1 hC.2.1 dX6_takes_14 rfl (lv_at hl 1 rfl) ?_
    refine lv_dup hC.1 hC.2.1 dX6_takes_15 rfl ?_
    refine gf (v := .int (v 8 7)) hC fwX6 hKN hP 0 rfl rfl 12 (by decide) rfl wd_899 rfl dX6_takes_16 ?_
    refine lv_iload_n hC.1 hC.2.1 dX6_takes_19 rfl (lv_at hl 0 rfl) ?_
    refine lv_if_eq (tgt := 27) hC.1 hC.2.1 dX6_takes_20 (by decide) (fun k20 => ?_) (fun k20 => ?_)
    · refine lv_iconst (v := 0) hC.1 hC.2.1 dX6_takes_27 (by decide) ?_
      refine lv_iadd hC.1 hC.2.1 dX6_takes_28 ?_
      refine lv_topi (fun w_1 ew_1 => ?_)
      refine pf (v := .int w_1) (tv := .int) hC fwX6 hKN hP (mdD_D hq v hs) hS 0 rfl rfl 12 (by decide) rfl wd_899 rfl rfl rfl (Nat.le_of_ble_eq_true rfl) dX6_takes_29 (fun H locs hq_2 hS => ?_)
      have hP : PW G (mdW G q (mkM (v 0) (v 1) (v 2) (v 3) (v 4) (v 5) (v 6) (v 7) (v 8 0) (v 8 1) (v 8 2) (v 8 3) (v 8 4) (v 8 5) (v 8 6) w_1 (v 8 8)) hs) H := hq_2
      have hI : BI (mkM (v 0) (v 1) (v 2) (v 3) (v 4) (v 5) (v 6) (v 7) (v 8 0) (v 8 1) (v 8 2) (v 8 3) (v 8 4) (v 8 5) (v 8 6) w_1 (v 8 8)) := (by first | exact BI_inc ew_1 hI k5 ha rfl rfl | exact BI_add0 ew_1 hI rfl rfl)
      refine lv_iload_n hC.1 hC.2.1 dX6_takes_32 rfl (lv_at hl 0 rfl) ?_
      have e_3 : fX6_takes v x1 = (mkM (v 0) (v 1) (v 2) (v 3) (v 4) (v 5) (v 6) (v 7) (v 8 0) (v 8 1) (v 8 2) (v 8 3) (v 8 4) (v 8 5) (v 8 6) w_1 (v 8 8), 0) := by have q_ := ew_1.symm; subst q_; delta fX6_takes; exact Eq.trans (if_neg k5) rfl
      have hg : fX6_takes v x1 = (mkM (v 0) (v 1) (v 2) (v 3) (v 4) (v 5) (v 6) (v 7) (v 8 0) (v 8 1) (v 8 2) (v 8 3) (v 8 4) (v 8 5) (v 8 6) w_1 (v 8 8), 0) := by have e2 := congrArg (fun z => z) e_3; exact hg.trans e2
      exact eE_z hC (by rw [hg]) rfl (by show PW G (mdW G q (fX6_takes v x1).1 hs) H; rw [hg]; exact hP) hS dX6_takes_33
    · exact absurd (by decide) k20
  · refine lv_iconst (v := 1) hC.1 hC.2.1 dX6_takes_8 (by decide) ?_
    refine lv_goto (tgt := 13) hC.1 hC.2.1 dX6_takes_9 (by decide) ?_
    refine lv_istore_n (lv' := [(2, .int 1), (0, .ref (q 0)), (1, .int x1)]) hC.1 hC.2.1 dX6_takes_13 rfl hl (by decide) rfl (fun ls hl => ?_)
    refine lv_aload_n hC.1 hC.2.1 dX6_takes_14 rfl (lv_at hl 1 rfl) ?_
    refine lv_dup hC.1 hC.2.1 dX6_takes_15 rfl ?_
    refine gf (v := .int (v 8 7)) hC fwX6 hKN hP 0 rfl rfl 12 (by decide) rfl wd_899 rfl dX6_takes_16 ?_
    refine lv_iload_n hC.1 hC.2.1 dX6_takes_19 rfl (lv_at hl 0 rfl) ?_
    refine lv_if_eq (tgt := 27) hC.1 hC.2.1 dX6_takes_20 (by decide) (fun k20 => ?_) (fun k20 => ?_)
    · exact absurd k20 (by decide)
    · refine lv_iconst (v := 1) hC.1 hC.2.1 dX6_takes_23 (by decide) ?_
      refine lv_goto (tgt := 28) hC.1 hC.2.1 dX6_takes_24 (by decide) ?_
      refine lv_iadd hC.1 hC.2.1 dX6_takes_28 ?_
      refine lv_topi (fun w_4 ew_4 => ?_)
      refine pf (v := .int w_4) (tv := .int) hC fwX6 hKN hP (mdD_D hq v hs) hS 0 rfl rfl 12 (by decide) rfl wd_899 rfl rfl rfl (Nat.le_of_ble_eq_true rfl) dX6_takes_29 (fun H locs hq_5 hS => ?_)
      have hP : PW G (mdW G q (mkM (v 0) (v 1) (v 2) (v 3) (v 4) (v 5) (v 6) (v 7) (v 8 0) (v 8 1) (v 8 2) (v 8 3) (v 8 4) (v 8 5) (v 8 6) w_4 (v 8 8)) hs) H := hq_5
      have hI : BI (mkM (v 0) (v 1) (v 2) (v 3) (v 4) (v 5) (v 6) (v 7) (v 8 0) (v 8 1) (v 8 2) (v 8 3) (v 8 4) (v 8 5) (v 8 6) w_4 (v 8 8)) := (by first | exact BI_inc ew_4 hI k5 ha rfl rfl | exact BI_add0 ew_4 hI rfl rfl)
      refine lv_iload_n hC.1 hC.2.1 dX6_takes_32 rfl (lv_at hl 0 rfl) ?_
      have e_6 : fX6_takes v x1 = (mkM (v 0) (v 1) (v 2) (v 3) (v 4) (v 5) (v 6) (v 7) (v 8 0) (v 8 1) (v 8 2) (v 8 3) (v 8 4) (v 8 5) (v 8 6) w_4 (v 8 8), 1) := by have q_ := ew_4.symm; subst q_; delta fX6_takes; exact Eq.trans (if_pos k5) rfl
      have hg : fX6_takes v x1 = (mkM (v 0) (v 1) (v 2) (v 3) (v 4) (v 5) (v 6) (v 7) (v 8 0) (v 8 1) (v 8 2) (v 8 3) (v 8 4) (v 8 5) (v 8 6) w_4 (v 8 8), 1) := by have e2 := congrArg (fun z => z) e_6; exact hg.trans e2
      exact eE_z hC (by rw [hg]) rfl (by show PW G (mdW G q (fX6_takes v x1).1 hs) H; rw [hg]; exact hP) hS dX6_takes_33

theorem dX6_takesFour_0 : decode cX6_takesFour 0 = .ok (.aload_n 0, 1) := by decide +kernel
theorem dX6_takesFour_1 : decode cX6_takesFour 1 = .ok (.iload_n 1, 1) := by decide +kernel
theorem dX6_takesFour_2 : decode cX6_takesFour 2 = .ok (.invokevirtual 142, 3) := by decide +kernel
theorem dX6_takesFour_5 : decode cX6_takesFour 5 = .ok (.ifCond .eq 37, 3) := by decide +kernel
theorem dX6_takesFour_8 : decode cX6_takesFour 8 = .ok (.aload_n 0, 1) := by decide +kernel
theorem dX6_takesFour_9 : decode cX6_takesFour 9 = .ok (.iload_n 2, 1) := by decide +kernel
theorem dX6_takesFour_10 : decode cX6_takesFour 10 = .ok (.invokevirtual 142, 3) := by decide +kernel
theorem dX6_takesFour_13 : decode cX6_takesFour 13 = .ok (.ifCond .eq 29, 3) := by decide +kernel
theorem dX6_takesFour_16 : decode cX6_takesFour 16 = .ok (.aload_n 0, 1) := by decide +kernel
theorem dX6_takesFour_17 : decode cX6_takesFour 17 = .ok (.iload_n 3, 1) := by decide +kernel
theorem dX6_takesFour_18 : decode cX6_takesFour 18 = .ok (.invokevirtual 142, 3) := by decide +kernel
theorem dX6_takesFour_21 : decode cX6_takesFour 21 = .ok (.ifCond .eq 21, 3) := by decide +kernel
theorem dX6_takesFour_24 : decode cX6_takesFour 24 = .ok (.iload 4, 2) := by decide +kernel
theorem dX6_takesFour_26 : decode cX6_takesFour 26 = .ok (.ifCond .eq 12, 3) := by decide +kernel
theorem dX6_takesFour_29 : decode cX6_takesFour 29 = .ok (.aload_n 0, 1) := by decide +kernel
theorem dX6_takesFour_30 : decode cX6_takesFour 30 = .ok (.iload 4, 2) := by decide +kernel
theorem dX6_takesFour_32 : decode cX6_takesFour 32 = .ok (.invokevirtual 142, 3) := by decide +kernel
theorem dX6_takesFour_35 : decode cX6_takesFour 35 = .ok (.ifCond .eq 7, 3) := by decide +kernel
theorem dX6_takesFour_38 : decode cX6_takesFour 38 = .ok (.iconst 1, 1) := by decide +kernel
theorem dX6_takesFour_39 : decode cX6_takesFour 39 = .ok (.goto 4, 3) := by decide +kernel
theorem dX6_takesFour_42 : decode cX6_takesFour 42 = .ok (.iconst 0, 1) := by decide +kernel
theorem dX6_takesFour_43 : decode cX6_takesFour 43 = .ok (.ireturn, 1) := by decide +kernel
set_option maxHeartbeats 1000000 in
set_option maxRecDepth 100000 in
theorem c_X6_takesFour (l : Launch) (G : GT) (q : Nat → Nat) (v : SV) (hs : Int64) (x1 : Int32) (x2 : Int32) (x3 : Int32) (x4 : Int32) (hq : mdD G q) (hI : BI v) (ha : ¬ x1 = 0) (hb : ¬ x2 = 0) (hc : ¬ x3 = 0) : Met l yX6_takesFour (Cond.code yX6_takesFour cX6_takesFour 5 (some .boolean) :: bigW) ({ frames := 2, cells := 0, slots := 0, locals := 42 }) (BP G [.ref (q 0), .int x1, .int x2, .int x3, .int x4] (fun U H => PW G (mdW G q v hs) H)) (QE (some (.int (fX6_takesFour v x1 x2 x3 x4).2)) (fun H => PW G (mdW G q (fX6_takesFour v x1 x2 x3 x4).1 hs) H) (mdA q)) 0 0 (mdA q) := by
  refine met_of (by decide) (Nat.le_of_ble_eq_true rfl) ?_
  intro p e s m below meth c ls hC hKN hB0 hl
  have hP := hB0
  have hl : lv_has ls 5 [(0, .ref (q 0)), (1, .int x1), (2, .int x2), (3, .int x3), (4, .int x4)] := hl
  have hS : va_S (mdA q) s.heap s.heap [] := va_S.rf
  have hAL : ∀ a, (mdA q) a → gL G ≤ a := mdD_low hq
  have hg : fX6_takesFour v x1 x2 x3 x4 = fX6_takesFour v x1 x2 x3 x4 := rfl
  refine lv_aload_n hC.1 hC.2.1 dX6_takesFour_0 rfl (lv_at hl 0 rfl) ?_
  refine lv_iload_n hC.1 hC.2.1 dX6_takesFour_1 rfl (lv_at hl 1 rfl) ?_
  refine runE (rV (B := fun U H => PW G (mdW G q v hs) H) (As := [.int x1]) (rest := []) hC mwX6_takes (c_X6_takes l G q v hs x1 hq hI ha) iwX6_takes wd_1086 ⟨rfl, rfl⟩ ⟨Nat.le_of_ble_eq_true rfl, Nat.le_of_ble_eq_true rfl⟩ (stb_h (fun H => PW G (mdW G q v hs) H)) hKN hP (va_recv hKN.k hP (ci := 6) (q0 := 0) rfl rfl) rfl hl.1 rfl (Nat.le_of_ble_eq_true rfl) dX6_takesFour_2 ⟨Nat.zero_le _, Nat.zero_le _⟩) hS (fun _ h => h) (fun _ h => h) (fun H locs hq_1 _ _ hS => ?_)
  have hP : PW G (mdW G q ((fX6_takes v x1).1) hs) H := hq_1
  obtain ⟨r_2, er_2⟩ : ∃ z, z = fX6_takes v x1 := ⟨_, rfl⟩
  rw [← er_2] at hP
  show W p l e ({ frames := 2, cells := 0, slots := 0, locals := 42 }) s m ([.ref (q 0), .int x1, .int x2, .int x3, .int x4] : List Value).toArray below meth c H locs (0 + 0) (0 + 0) _ (F0 m (2 + 3) ls [.int ((fX6_takes v x1).2)])
  rw [← er_2]
  have hI : BI r_2.1 := by rw [er_2]; exact (I_takes hI ha)
  refine lv_if_eq (tgt := 42) hC.1 hC.2.1 dX6_takesFour_5 (by decide) (fun k5 => ?_) (fun k5 => ?_)
  · refine lv_iconst (v := 0) hC.1 hC.2.1 dX6_takesFour_42 (by decide) ?_
    have e_3 : fX6_takesFour v x1 x2 x3 x4 = (r_2.1, 0) := by have q_ := er_2.symm; subst q_; delta fX6_takesFour; exact Eq.trans (if_pos k5) rfl
    have hg : fX6_takesFour v x1 x2 x3 x4 = (r_2.1, 0) := by have e2 := congrArg (fun z => z) e_3; exact hg.trans e2
    exact eE_z hC (by rw [hg]) rfl (by show PW G (mdW G q (fX6_takesFour v x1 x2 x3 x4).1 hs) H; rw [hg]; exact hP) hS dX6_takesFour_43
  · refine lv_aload_n hC.1 hC.2.1 dX6_takesFour_8 rfl (lv_at hl 0 rfl) ?_
    refine lv_iload_n hC.1 hC.2.1 dX6_takesFour_9 rfl (lv_at hl 2 rfl) ?_
    refine runE (rV (B := fun U H => PW G (mdW G q r_2.1 hs) H) (As := [.int x2]) (rest := []) hC mwX6_takes (c_X6_takes l G q r_2.1 hs x2 hq hI hb) iwX6_takes wd_1086 ⟨rfl, rfl⟩ ⟨Nat.le_of_ble_eq_true rfl, Nat.le_of_ble_eq_true rfl⟩ (stb_h (fun H => PW G (mdW G q r_2.1 hs) H)) (hKN.go hAL hS) hP (va_recv (hKN.go hAL hS).k hP (ci := 6) (q0 := 0) rfl rfl) rfl hl.1 rfl (Nat.le_of_ble_eq_true rfl) dX6_takesFour_10 ⟨Nat.zero_le _, Nat.zero_le _⟩) hS (fun _ h => h) (fun _ h => h) (fun H locs hq_4 _ _ hS => ?_)
    have hP : PW G (mdW G q ((fX6_takes r_2.1 x2).1) hs) H := hq_4
    obtain ⟨r_5, er_5⟩ : ∃ z, z = fX6_takes r_2.1 x2 := ⟨_, rfl⟩
    rw [← er_5] at hP
    show W p l e ({ frames := 2, cells := 0, slots := 0, locals := 42 }) s m ([.ref (q 0), .int x1, .int x2, .int x3, .int x4] : List Value).toArray below meth c H locs (0 + 0) (0 + 0) _ (F0 m (10 + 3) ls [.int ((fX6_takes r_2.1 x2).2)])
    rw [← er_5]
    have hI : BI r_5.1 := by rw [er_5]; exact (I_takes hI hb)
    refine lv_if_eq (tgt := 42) hC.1 hC.2.1 dX6_takesFour_13 (by decide) (fun k13 => ?_) (fun k13 => ?_)
    · refine lv_iconst (v := 0) hC.1 hC.2.1 dX6_takesFour_42 (by decide) ?_
      have e_6 : fX6_takesFour v x1 x2 x3 x4 = (r_5.1, 0) := by have q_ := er_5.symm; subst q_; have q_ := er_2.symm; subst q_; delta fX6_takesFour; exact Eq.trans (if_neg k5) (Eq.trans (if_pos k13) rfl)
      have hg : fX6_takesFour v x1 x2 x3 x4 = (r_5.1, 0) := by have e2 := congrArg (fun z => z) e_6; exact hg.trans e2
      exact eE_z hC (by rw [hg]) rfl (by show PW G (mdW G q (fX6_takesFour v x1 x2 x3 x4).1 hs) H; rw [hg]; exact hP) hS dX6_takesFour_43
    · refine lv_aload_n hC.1 hC.2.1 dX6_takesFour_16 rfl (lv_at hl 0 rfl) ?_
      refine lv_iload_n hC.1 hC.2.1 dX6_takesFour_17 rfl (lv_at hl 3 rfl) ?_
      refine runE (rV (B := fun U H => PW G (mdW G q r_5.1 hs) H) (As := [.int x3]) (rest := []) hC mwX6_takes (c_X6_takes l G q r_5.1 hs x3 hq hI hc) iwX6_takes wd_1086 ⟨rfl, rfl⟩ ⟨Nat.le_of_ble_eq_true rfl, Nat.le_of_ble_eq_true rfl⟩ (stb_h (fun H => PW G (mdW G q r_5.1 hs) H)) (hKN.go hAL hS) hP (va_recv (hKN.go hAL hS).k hP (ci := 6) (q0 := 0) rfl rfl) rfl hl.1 rfl (Nat.le_of_ble_eq_true rfl) dX6_takesFour_18 ⟨Nat.zero_le _, Nat.zero_le _⟩) hS (fun _ h => h) (fun _ h => h) (fun H locs hq_7 _ _ hS => ?_)
      have hP : PW G (mdW G q ((fX6_takes r_5.1 x3).1) hs) H := hq_7
      obtain ⟨r_8, er_8⟩ : ∃ z, z = fX6_takes r_5.1 x3 := ⟨_, rfl⟩
      rw [← er_8] at hP
      show W p l e ({ frames := 2, cells := 0, slots := 0, locals := 42 }) s m ([.ref (q 0), .int x1, .int x2, .int x3, .int x4] : List Value).toArray below meth c H locs (0 + 0) (0 + 0) _ (F0 m (18 + 3) ls [.int ((fX6_takes r_5.1 x3).2)])
      rw [← er_8]
      have hI : BI r_8.1 := by rw [er_8]; exact (I_takes hI hc)
      refine lv_if_eq (tgt := 42) hC.1 hC.2.1 dX6_takesFour_21 (by decide) (fun k21 => ?_) (fun k21 => ?_)
      · refine lv_iconst (v := 0) hC.1 hC.2.1 dX6_takesFour_42 (by decide) ?_
        have e_9 : fX6_takesFour v x1 x2 x3 x4 = (r_8.1, 0) := by have q_ := er_8.symm; subst q_; have q_ := er_5.symm; subst q_; have q_ := er_2.symm; subst q_; delta fX6_takesFour; exact Eq.trans (if_neg k5) (Eq.trans (if_neg k13) (Eq.trans (if_pos k21) rfl))
        have hg : fX6_takesFour v x1 x2 x3 x4 = (r_8.1, 0) := by have e2 := congrArg (fun z => z) e_9; exact hg.trans e2
        exact eE_z hC (by rw [hg]) rfl (by show PW G (mdW G q (fX6_takesFour v x1 x2 x3 x4).1 hs) H; rw [hg]; exact hP) hS dX6_takesFour_43
      · refine lv_iload hC.1 hC.2.1 dX6_takesFour_24 (lv_at hl 4 rfl) ?_
        refine lv_if_eq (tgt := 38) hC.1 hC.2.1 dX6_takesFour_26 (by decide) (fun k26 => ?_) (fun k26 => ?_)
        · refine lv_iconst (v := 1) hC.1 hC.2.1 dX6_takesFour_38 (by decide) ?_
          refine lv_goto (tgt := 43) hC.1 hC.2.1 dX6_takesFour_39 (by decide) ?_
          have e_10 : fX6_takesFour v x1 x2 x3 x4 = (r_8.1, 1) := by have q_ := er_8.symm; subst q_; have q_ := er_5.symm; subst q_; have q_ := er_2.symm; subst q_; delta fX6_takesFour; exact Eq.trans (if_neg k5) (Eq.trans (if_neg k13) (Eq.trans (if_neg k21) (Eq.trans (if_pos k26) rfl)))
          have hg : fX6_takesFour v x1 x2 x3 x4 = (r_8.1, 1) := by have e2 := congrArg (fun z => z) e_10; exact hg.trans e2
          exact eE_z hC (by rw [hg]) rfl (by show PW G (mdW G q (fX6_takesFour v x1 x2 x3 x4).1 hs) H; rw [hg]; exact hP) hS dX6_takesFour_43
        · refine lv_aload_n hC.1 hC.2.1 dX6_takesFour_29 rfl (lv_at hl 0 rfl) ?_
          refine lv_iload hC.1 hC.2.1 dX6_takesFour_30 (lv_at hl 4 rfl) ?_
          refine runE (rV (B := fun U H => PW G (mdW G q r_8.1 hs) H) (As := [.int x4]) (rest := []) hC mwX6_takes (c_X6_takes l G q r_8.1 hs x4 hq hI k26) iwX6_takes wd_1086 ⟨rfl, rfl⟩ ⟨Nat.le_of_ble_eq_true rfl, Nat.le_of_ble_eq_true rfl⟩ (stb_h (fun H => PW G (mdW G q r_8.1 hs) H)) (hKN.go hAL hS) hP (va_recv (hKN.go hAL hS).k hP (ci := 6) (q0 := 0) rfl rfl) rfl hl.1 rfl (Nat.le_of_ble_eq_true rfl) dX6_takesFour_32 ⟨Nat.zero_le _, Nat.zero_le _⟩) hS (fun _ h => h) (fun _ h => h) (fun H locs hq_11 _ _ hS => ?_)
          have hP : PW G (mdW G q ((fX6_takes r_8.1 x4).1) hs) H := hq_11
          obtain ⟨r_12, er_12⟩ : ∃ z, z = fX6_takes r_8.1 x4 := ⟨_, rfl⟩
          rw [← er_12] at hP
          show W p l e ({ frames := 2, cells := 0, slots := 0, locals := 42 }) s m ([.ref (q 0), .int x1, .int x2, .int x3, .int x4] : List Value).toArray below meth c H locs (0 + 0) (0 + 0) _ (F0 m (32 + 3) ls [.int ((fX6_takes r_8.1 x4).2)])
          rw [← er_12]
          have hI : BI r_12.1 := by rw [er_12]; exact (I_takes hI k26)
          refine lv_if_eq (tgt := 42) hC.1 hC.2.1 dX6_takesFour_35 (by decide) (fun k35 => ?_) (fun k35 => ?_)
          · refine lv_iconst (v := 0) hC.1 hC.2.1 dX6_takesFour_42 (by decide) ?_
            have e_13 : fX6_takesFour v x1 x2 x3 x4 = (r_12.1, 0) := by have q_ := er_12.symm; subst q_; have q_ := er_8.symm; subst q_; have q_ := er_5.symm; subst q_; have q_ := er_2.symm; subst q_; delta fX6_takesFour; exact Eq.trans (if_neg k5) (Eq.trans (if_neg k13) (Eq.trans (if_neg k21) (Eq.trans (if_neg k26) (Eq.trans (if_pos k35) rfl))))
            have hg : fX6_takesFour v x1 x2 x3 x4 = (r_12.1, 0) := by have e2 := congrArg (fun z => z) e_13; exact hg.trans e2
            exact eE_z hC (by rw [hg]) rfl (by show PW G (mdW G q (fX6_takesFour v x1 x2 x3 x4).1 hs) H; rw [hg]; exact hP) hS dX6_takesFour_43
          · refine lv_iconst (v := 1) hC.1 hC.2.1 dX6_takesFour_38 (by decide) ?_
            refine lv_goto (tgt := 43) hC.1 hC.2.1 dX6_takesFour_39 (by decide) ?_
            have e_14 : fX6_takesFour v x1 x2 x3 x4 = (r_12.1, 1) := by have q_ := er_12.symm; subst q_; have q_ := er_8.symm; subst q_; have q_ := er_5.symm; subst q_; have q_ := er_2.symm; subst q_; delta fX6_takesFour; exact Eq.trans (if_neg k5) (Eq.trans (if_neg k13) (Eq.trans (if_neg k21) (Eq.trans (if_neg k26) (Eq.trans (if_neg k35) rfl))))
            have hg : fX6_takesFour v x1 x2 x3 x4 = (r_12.1, 1) := by have e2 := congrArg (fun z => z) e_14; exact hg.trans e2
            exact eE_z hC (by rw [hg]) rfl (by show PW G (mdW G q (fX6_takesFour v x1 x2 x3 x4).1 hs) H; rw [hg]; exact hP) hS dX6_takesFour_43

theorem dX6_addPart_0 : decode cX6_addPart 0 = .ok (.aload_n 0, 1) := by decide +kernel
theorem dX6_addPart_1 : decode cX6_addPart 1 = .ok (.getfield 25, 3) := by decide +kernel
theorem dX6_addPart_4 : decode cX6_addPart 4 = .ok (.aload_n 0, 1) := by decide +kernel
theorem dX6_addPart_5 : decode cX6_addPart 5 = .ok (.getfield 145, 3) := by decide +kernel
theorem dX6_addPart_8 : decode cX6_addPart 8 = .ok (.iload_n 1, 1) := by decide +kernel
theorem dX6_addPart_9 : decode cX6_addPart 9 = .ok (.iastore, 1) := by decide +kernel
theorem dX6_addPart_10 : decode cX6_addPart 10 = .ok (.aload_n 0, 1) := by decide +kernel
theorem dX6_addPart_11 : decode cX6_addPart 11 = .ok (.getfield 28, 3) := by decide +kernel
theorem dX6_addPart_14 : decode cX6_addPart 14 = .ok (.aload_n 0, 1) := by decide +kernel
theorem dX6_addPart_15 : decode cX6_addPart 15 = .ok (.getfield 145, 3) := by decide +kernel
theorem dX6_addPart_18 : decode cX6_addPart 18 = .ok (.iload_n 2, 1) := by decide +kernel
theorem dX6_addPart_19 : decode cX6_addPart 19 = .ok (.iastore, 1) := by decide +kernel
theorem dX6_addPart_20 : decode cX6_addPart 20 = .ok (.aload_n 0, 1) := by decide +kernel
theorem dX6_addPart_21 : decode cX6_addPart 21 = .ok (.getfield 31, 3) := by decide +kernel
theorem dX6_addPart_24 : decode cX6_addPart 24 = .ok (.aload_n 0, 1) := by decide +kernel
theorem dX6_addPart_25 : decode cX6_addPart 25 = .ok (.getfield 145, 3) := by decide +kernel
theorem dX6_addPart_28 : decode cX6_addPart 28 = .ok (.iload_n 3, 1) := by decide +kernel
theorem dX6_addPart_29 : decode cX6_addPart 29 = .ok (.iastore, 1) := by decide +kernel
theorem dX6_addPart_30 : decode cX6_addPart 30 = .ok (.aload_n 0, 1) := by decide +kernel
theorem dX6_addPart_31 : decode cX6_addPart 31 = .ok (.dup, 1) := by decide +kernel
theorem dX6_addPart_32 : decode cX6_addPart 32 = .ok (.getfield 145, 3) := by decide +kernel
theorem dX6_addPart_35 : decode cX6_addPart 35 = .ok (.iconst 1, 1) := by decide +kernel
theorem dX6_addPart_36 : decode cX6_addPart 36 = .ok (.iadd, 1) := by decide +kernel
theorem dX6_addPart_37 : decode cX6_addPart 37 = .ok (.putfield 145, 3) := by decide +kernel
theorem dX6_addPart_40 : decode cX6_addPart 40 = .ok (.iconst 1, 1) := by decide +kernel
theorem dX6_addPart_41 : decode cX6_addPart 41 = .ok (.ireturn, 1) := by decide +kernel
set_option maxHeartbeats 1000000 in
set_option maxRecDepth 100000 in
theorem c_X6_addPart (l : Launch) (G : GT) (q : Nat → Nat) (v : SV) (hs : Int64) (x1 : Int32) (x2 : Int32) (x3 : Int32) (hq : mdD G q) (hI : le_n (v 8 8) 15) : Met l yX6_addPart (Cond.code yX6_addPart cX6_addPart 4 (some .boolean) :: bigW) ({ frames := 0, cells := 0, slots := 0, locals := 0 }) (BP G [.ref (q 0), .int x1, .int x2, .int x3] (fun U H => PW G (mdW G q v hs) H)) (QE (some (.int (fX6_addPart v x1 x2 x3).2)) (fun H => PW G (mdW G q (fX6_addPart v x1 x2 x3).1 hs) H) (mdA q)) 0 0 (mdA q) := by
  refine met_of (by decide) (Nat.le_of_ble_eq_true rfl) ?_
  intro p e s m below meth c ls hC hKN hB0 hl
  have hP := hB0
  have hl : lv_has ls 4 [(0, .ref (q 0)), (1, .int x1), (2, .int x2), (3, .int x3)] := hl
  have hS : va_S (mdA q) s.heap s.heap [] := va_S.rf
  have hAL : ∀ a, (mdA q) a → gL G ≤ a := mdD_low hq
  have hg : fX6_addPart v x1 x2 x3 = fX6_addPart v x1 x2 x3 := rfl
  refine lv_aload_n hC.1 hC.2.1 dX6_addPart_0 rfl (lv_at hl 0 rfl) ?_
  refine gf (v := .ref (q 6)) hC fwX6 hKN hP 0 rfl rfl 14 (by decide) rfl wd_901 rfl dX6_addPart_1 ?_
  refine lv_aload_n hC.1 hC.2.1 dX6_addPart_4 rfl (lv_at hl 0 rfl) ?_
  refine gf (v := .int (v 8 8)) hC fwX6 hKN hP 0 rfl rfl 13 (by decide) rfl wd_900 rfl dX6_addPart_5 ?_
  refine lv_topi (fun w_1 ew_1 => ?_)
  rw [show w_1 = nI ((v 8 8).toNatClampNeg) from ew_1.trans (lq hI)]
  refine lv_iload_n hC.1 hC.2.1 dX6_addPart_8 rfl (lv_at hl 1 rfl) ?_
  refine iast_k hC hKN hP (mdD_D hq v hs) hS 6 rfl (n := 16) (f := (v 5)) ((v 8 8).toNatClampNeg) (rfl) (Nat.lt_succ_of_le hI.2) (by decide) dX6_addPart_9 (fun H locs hq_2 hS => ?_)
  have hP : PW G (mdW G q (mkM (v 0) (v 1) (v 2) (v 3) (v 4) (upd (v 5) ((v 8 8).toNatClampNeg) x1) (v 6) (v 7) (v 8 0) (v 8 1) (v 8 2) (v 8 3) (v 8 4) (v 8 5) (v 8 6) (v 8 7) (v 8 8)) hs) H := hq_2
  have hI : le_n ((mkM (v 0) (v 1) (v 2) (v 3) (v 4) (upd (v 5) ((v 8 8).toNatClampNeg) x1) (v 6) (v 7) (v 8 0) (v 8 1) (v 8 2) (v 8 3) (v 8 4) (v 8 5) (v 8 6) (v 8 7) (v 8 8)) 8 8) 15 := hI
  refine lv_aload_n hC.1 hC.2.1 dX6_addPart_10 rfl (lv_at hl 0 rfl) ?_
  refine gf (v := .ref (q 7)) hC fwX6 (hKN.go hAL hS) hP 0 rfl rfl 15 (by decide) rfl wd_902 rfl dX6_addPart_11 ?_
  refine lv_aload_n hC.1 hC.2.1 dX6_addPart_14 rfl (lv_at hl 0 rfl) ?_
  refine gf (v := .int (v 8 8)) hC fwX6 (hKN.go hAL hS) hP 0 rfl rfl 13 (by decide) rfl wd_900 rfl dX6_addPart_15 ?_
  refine lv_topi (fun w_3 ew_3 => ?_)
  rw [show w_3 = nI ((v 8 8).toNatClampNeg) from ew_3.trans (lq hI)]
  refine lv_iload_n hC.1 hC.2.1 dX6_addPart_18 rfl (lv_at hl 2 rfl) ?_
  refine iast_k hC (hKN.go hAL hS) hP (mdD_D hq (mkM (v 0) (v 1) (v 2) (v 3) (v 4) (upd (v 5) ((v 8 8).toNatClampNeg) x1) (v 6) (v 7) (v 8 0) (v 8 1) (v 8 2) (v 8 3) (v 8 4) (v 8 5) (v 8 6) (v 8 7) (v 8 8)) hs) hS 7 rfl (n := 16) (f := (v 6)) ((v 8 8).toNatClampNeg) (rfl) (Nat.lt_succ_of_le hI.2) (by decide) dX6_addPart_19 (fun H locs hq_4 hS => ?_)
  have hP : PW G (mdW G q (mkM (v 0) (v 1) (v 2) (v 3) (v 4) (upd (v 5) ((v 8 8).toNatClampNeg) x1) (upd (v 6) ((v 8 8).toNatClampNeg) x2) (v 7) (v 8 0) (v 8 1) (v 8 2) (v 8 3) (v 8 4) (v 8 5) (v 8 6) (v 8 7) (v 8 8)) hs) H := hq_4
  have hI : le_n ((mkM (v 0) (v 1) (v 2) (v 3) (v 4) (upd (v 5) ((v 8 8).toNatClampNeg) x1) (upd (v 6) ((v 8 8).toNatClampNeg) x2) (v 7) (v 8 0) (v 8 1) (v 8 2) (v 8 3) (v 8 4) (v 8 5) (v 8 6) (v 8 7) (v 8 8)) 8 8) 15 := hI
  refine lv_aload_n hC.1 hC.2.1 dX6_addPart_20 rfl (lv_at hl 0 rfl) ?_
  refine gf (v := .ref (q 8)) hC fwX6 (hKN.go hAL hS) hP 0 rfl rfl 16 (by decide) rfl wd_903 rfl dX6_addPart_21 ?_
  refine lv_aload_n hC.1 hC.2.1 dX6_addPart_24 rfl (lv_at hl 0 rfl) ?_
  refine gf (v := .int (v 8 8)) hC fwX6 (hKN.go hAL hS) hP 0 rfl rfl 13 (by decide) rfl wd_900 rfl dX6_addPart_25 ?_
  refine lv_topi (fun w_5 ew_5 => ?_)
  rw [show w_5 = nI ((v 8 8).toNatClampNeg) from ew_5.trans (lq hI)]
  refine lv_iload_n hC.1 hC.2.1 dX6_addPart_28 rfl (lv_at hl 3 rfl) ?_
  refine iast_k hC (hKN.go hAL hS) hP (mdD_D hq (mkM (v 0) (v 1) (v 2) (v 3) (v 4) (upd (v 5) ((v 8 8).toNatClampNeg) x1) (upd (v 6) ((v 8 8).toNatClampNeg) x2) (v 7) (v 8 0) (v 8 1) (v 8 2) (v 8 3) (v 8 4) (v 8 5) (v 8 6) (v 8 7) (v 8 8)) hs) hS 8 rfl (n := 16) (f := (v 7)) ((v 8 8).toNatClampNeg) (rfl) (Nat.lt_succ_of_le hI.2) (by decide) dX6_addPart_29 (fun H locs hq_6 hS => ?_)
  have hP : PW G (mdW G q (mkM (v 0) (v 1) (v 2) (v 3) (v 4) (upd (v 5) ((v 8 8).toNatClampNeg) x1) (upd (v 6) ((v 8 8).toNatClampNeg) x2) (upd (v 7) ((v 8 8).toNatClampNeg) x3) (v 8 0) (v 8 1) (v 8 2) (v 8 3) (v 8 4) (v 8 5) (v 8 6) (v 8 7) (v 8 8)) hs) H := hq_6
  have hI : le_n ((mkM (v 0) (v 1) (v 2) (v 3) (v 4) (upd (v 5) ((v 8 8).toNatClampNeg) x1) (upd (v 6) ((v 8 8).toNatClampNeg) x2) (upd (v 7) ((v 8 8).toNatClampNeg) x3) (v 8 0) (v 8 1) (v 8 2) (v 8 3) (v 8 4) (v 8 5) (v 8 6) (v 8 7) (v 8 8)) 8 8) 15 := hI
  refine lv_aload_n hC.1 hC.2.1 dX6_addPart_30 rfl (lv_at hl 0 rfl) ?_
  refine lv_dup hC.1 hC.2.1 dX6_addPart_31 rfl ?_
  refine gf (v := .int (v 8 8)) hC fwX6 (hKN.go hAL hS) hP 0 rfl rfl 13 (by decide) rfl wd_900 rfl dX6_addPart_32 ?_
  refine lv_iconst (v := 1) hC.1 hC.2.1 dX6_addPart_35 (by decide) ?_
  refine lv_iadd hC.1 hC.2.1 dX6_addPart_36 ?_
  refine lv_topi (fun w_7 ew_7 => ?_)
  refine pf (v := .int w_7) (tv := .int) hC fwX6 (hKN.go hAL hS) hP (mdD_D hq (mkM (v 0) (v 1) (v 2) (v 3) (v 4) (upd (v 5) ((v 8 8).toNatClampNeg) x1) (upd (v 6) ((v 8 8).toNatClampNeg) x2) (upd (v 7) ((v 8 8).toNatClampNeg) x3) (v 8 0) (v 8 1) (v 8 2) (v 8 3) (v 8 4) (v 8 5) (v 8 6) (v 8 7) (v 8 8)) hs) hS 0 rfl rfl 13 (by decide) rfl wd_900 rfl rfl rfl (Nat.le_of_ble_eq_true rfl) dX6_addPart_37 (fun H locs hq_8 hS => ?_)
  have hP : PW G (mdW G q (mkM (v 0) (v 1) (v 2) (v 3) (v 4) (upd (v 5) ((v 8 8).toNatClampNeg) x1) (upd (v 6) ((v 8 8).toNatClampNeg) x2) (upd (v 7) ((v 8 8).toNatClampNeg) x3) (v 8 0) (v 8 1) (v 8 2) (v 8 3) (v 8 4) (v 8 5) (v 8 6) (v 8 7) w_7) hs) H := hq_8
  have hI : True := trivial
  refine lv_iconst (v := 1) hC.1 hC.2.1 dX6_addPart_40 (by decide) ?_
  have e_9 : fX6_addPart v x1 x2 x3 = (mkM (v 0) (v 1) (v 2) (v 3) (v 4) (upd (v 5) ((v 8 8).toNatClampNeg) x1) (upd (v 6) ((v 8 8).toNatClampNeg) x2) (upd (v 7) ((v 8 8).toNatClampNeg) x3) (v 8 0) (v 8 1) (v 8 2) (v 8 3) (v 8 4) (v 8 5) (v 8 6) (v 8 7) w_7, 1) := by have q_ := ew_7.symm; subst q_; delta fX6_addPart; exact rfl
  have hg : fX6_addPart v x1 x2 x3 = (mkM (v 0) (v 1) (v 2) (v 3) (v 4) (upd (v 5) ((v 8 8).toNatClampNeg) x1) (upd (v 6) ((v 8 8).toNatClampNeg) x2) (upd (v 7) ((v 8 8).toNatClampNeg) x3) (v 8 0) (v 8 1) (v 8 2) (v 8 3) (v 8 4) (v 8 5) (v 8 6) (v 8 7) w_7, 1) := by have e2 := congrArg (fun z => z) e_9; exact hg.trans e2
  exact eE_z hC (by rw [hg]) rfl (by show PW G (mdW G q (fX6_addPart v x1 x2 x3).1 hs) H; rw [hg]; exact hP) hS dX6_addPart_41

theorem dX6_readNumber_0 : decode cX6_readNumber 0 = .ok (.iconst 0, 1) := by decide +kernel
theorem dX6_readNumber_1 : decode cX6_readNumber 1 = .ok (.istore_n 2, 1) := by decide +kernel
theorem dX6_readNumber_2 : decode cX6_readNumber 2 = .ok (.aload_n 0, 1) := by decide +kernel
theorem dX6_readNumber_3 : decode cX6_readNumber 3 = .ok (.invokevirtual 139, 3) := by decide +kernel
theorem dX6_readNumber_6 : decode cX6_readNumber 6 = .ok (.iload_n 2, 1) := by decide +kernel
theorem dX6_readNumber_7 : decode cX6_readNumber 7 = .ok (.ifCond .ne 8, 3) := by decide +kernel
theorem dX6_readNumber_10 : decode cX6_readNumber 10 = .ok (.bipush 49, 2) := by decide +kernel
theorem dX6_readNumber_12 : decode cX6_readNumber 12 = .ok (.goto 5, 3) := by decide +kernel
theorem dX6_readNumber_15 : decode cX6_readNumber 15 = .ok (.bipush 48, 2) := by decide +kernel
theorem dX6_readNumber_17 : decode cX6_readNumber 17 = .ok (.bipush 57, 2) := by decide +kernel
theorem dX6_readNumber_19 : decode cX6_readNumber 19 = .ok (.invokestatic 39, 3) := by decide +kernel
theorem dX6_readNumber_22 : decode cX6_readNumber 22 = .ok (.ifCond .eq 45, 3) := by decide +kernel
theorem dX6_readNumber_25 : decode cX6_readNumber 25 = .ok (.bipush 10, 2) := by decide +kernel
theorem dX6_readNumber_27 : decode cX6_readNumber 27 = .ok (.iload_n 2, 1) := by decide +kernel
theorem dX6_readNumber_28 : decode cX6_readNumber 28 = .ok (.imul, 1) := by decide +kernel
theorem dX6_readNumber_29 : decode cX6_readNumber 29 = .ok (.aload_n 0, 1) := by decide +kernel
theorem dX6_readNumber_30 : decode cX6_readNumber 30 = .ok (.invokevirtual 139, 3) := by decide +kernel
theorem dX6_readNumber_33 : decode cX6_readNumber 33 = .ok (.iadd, 1) := by decide +kernel
theorem dX6_readNumber_34 : decode cX6_readNumber 34 = .ok (.bipush 48, 2) := by decide +kernel
theorem dX6_readNumber_36 : decode cX6_readNumber 36 = .ok (.isub, 1) := by decide +kernel
theorem dX6_readNumber_37 : decode cX6_readNumber 37 = .ok (.iload_n 1, 1) := by decide +kernel
theorem dX6_readNumber_38 : decode cX6_readNumber 38 = .ok (.if_icmp .gt 29, 3) := by decide +kernel
theorem dX6_readNumber_41 : decode cX6_readNumber 41 = .ok (.bipush 10, 2) := by decide +kernel
theorem dX6_readNumber_43 : decode cX6_readNumber 43 = .ok (.iload_n 2, 1) := by decide +kernel
theorem dX6_readNumber_44 : decode cX6_readNumber 44 = .ok (.imul, 1) := by decide +kernel
theorem dX6_readNumber_45 : decode cX6_readNumber 45 = .ok (.aload_n 0, 1) := by decide +kernel
theorem dX6_readNumber_46 : decode cX6_readNumber 46 = .ok (.invokevirtual 139, 3) := by decide +kernel
theorem dX6_readNumber_49 : decode cX6_readNumber 49 = .ok (.iadd, 1) := by decide +kernel
theorem dX6_readNumber_50 : decode cX6_readNumber 50 = .ok (.bipush 48, 2) := by decide +kernel
theorem dX6_readNumber_52 : decode cX6_readNumber 52 = .ok (.isub, 1) := by decide +kernel
theorem dX6_readNumber_53 : decode cX6_readNumber 53 = .ok (.istore_n 2, 1) := by decide +kernel
theorem dX6_readNumber_54 : decode cX6_readNumber 54 = .ok (.aload_n 0, 1) := by decide +kernel
theorem dX6_readNumber_55 : decode cX6_readNumber 55 = .ok (.dup, 1) := by decide +kernel
theorem dX6_readNumber_56 : decode cX6_readNumber 56 = .ok (.getfield 136, 3) := by decide +kernel
theorem dX6_readNumber_59 : decode cX6_readNumber 59 = .ok (.iconst 1, 1) := by decide +kernel
theorem dX6_readNumber_60 : decode cX6_readNumber 60 = .ok (.iadd, 1) := by decide +kernel
theorem dX6_readNumber_61 : decode cX6_readNumber 61 = .ok (.putfield 136, 3) := by decide +kernel
theorem dX6_readNumber_64 : decode cX6_readNumber 64 = .ok (.goto (-62), 3) := by decide +kernel
theorem dX6_readNumber_67 : decode cX6_readNumber 67 = .ok (.iload_n 2, 1) := by decide +kernel
theorem dX6_readNumber_68 : decode cX6_readNumber 68 = .ok (.ireturn, 1) := by decide +kernel
set_option maxHeartbeats 1000000 in
set_option maxRecDepth 100000 in
theorem c_X6_readNumber (l : Launch) (G : GT) (q : Nat → Nat) (v : SV) (hs : Int64) (x1 : Int32) (hq : mdD G q) (hI : BI v) : Met l yX6_readNumber (Cond.code yX6_readNumber cX6_readNumber 3 (some .int) :: bigW) ({ frames := 1, cells := 0, slots := 0, locals := 22 }) (BP G [.ref (q 0), .int x1] (fun U H => PW G (mdW G q v hs) H)) (QE (some (.int (fX6_readNumber v x1).2)) (fun H => PW G (mdW G q (fX6_readNumber v x1).1 hs) H) (mdA q)) 0 0 (mdA q) := by
  refine met_of (by decide) (Nat.le_of_ble_eq_true rfl) ?_
  intro p e s m below meth c ls hC hKN hB0 hl
  have hP := hB0
  have hl : lv_has ls 3 [(0, .ref (q 0)), (1, .int x1)] := hl
  have hS : va_S (mdA q) s.heap s.heap [] := va_S.rf
  have hAL : ∀ a, (mdA q) a → gL G ≤ a := mdD_low hq
  have hg : fX6_readNumber v x1 = fX6_readNumber v x1 := rfl
  refine lv_iconst (v := 0) hC.1 hC.2.1 dX6_readNumber_0 (by decide) ?_
  refine lv_istore_n (lv' := [(2, .int 0), (0, .ref (q 0)), (1, .int x1)]) hC.1 hC.2.1 dX6_readNumber_1 rfl hl (by decide) rfl (fun ls hl => ?_)
  have A2 : ∀ (y2_2 : Int32) (v_2 : SV), fX6_readNumber v x1 = (tX6_readNumber_2 v x1 (y2_2, v_2)) → BI v_2 → ∀ (H : Heap) (locs : List Loc), PW G (mdW G q v_2 hs) H → va_S (mdA q) s.heap H locs → ∀ (ls : Array Slot), lv_has ls 3 [(2, .int y2_2)] → W p l e ({ frames := 1, cells := 0, slots := 0, locals := 22 }) s m ([.ref (q 0), .int x1] : List Value).toArray below meth c H locs 0 0 (MQ below (QE (some (.int (fX6_readNumber v x1).2)) (fun H => PW G (mdW G q (fX6_readNumber v x1).1 hs) H) (mdA q)) ([.ref (q 0), .int x1] : List Value).toArray s 0 0 (mdA q)) (F0 m 67 ls []) := by
    intro  y2_2 v_2 hg hI H locs hP hS ls hl
    refine lv_iload_n hC.1 hC.2.1 dX6_readNumber_67 rfl (lv_at hl 0 rfl) ?_
    have e_1 : tX6_readNumber_2 v x1 (y2_2, v_2) = (v_2, y2_2) := by delta tX6_readNumber_2; exact rfl
    have hg : fX6_readNumber v x1 = (v_2, y2_2) := by have e2 := congrArg (fun z => z) e_1; exact hg.trans e2
    exact eE_i hC (by rw [hg]) (by show PW G (mdW G q (fX6_readNumber v x1).1 hs) H; rw [hg]; exact hP) hS dX6_readNumber_68
  have L2 : ∀ (n2 : Nat), ∀ (y2_2 : Int32) (v_2 : SV), lpT n2 (bX6_readNumber_2 v x1) (y2_2, v_2) → fX6_readNumber v x1 = (tX6_readNumber_2 v x1 (lpB n2 (bX6_readNumber_2 v x1) (y2_2, v_2))) → BI v_2 → ∀ (H : Heap) (locs : List Loc), PW G (mdW G q v_2 hs) H → va_S (mdA q) s.heap H locs → ∀ (ls : Array Slot), lv_has ls 3 [(0, .ref (q 0)), (1, .int x1), (2, .int y2_2)] → W p l e ({ frames := 1, cells := 0, slots := 0, locals := 22 }) s m ([.ref (q 0), .int x1] : List Value).toArray below meth c H locs 0 0 (MQ below (QE (some (.int (fX6_readNumber v x1).2)) (fun H => PW G (mdW G q (fX6_readNumber v x1).1 hs) H) (mdA q)) ([.ref (q 0), .int x1] : List Value).toArray s 0 0 (mdA q)) (F0 m 2 ls []) := by
    intro n2
    induction n2 with
    | zero =>
      intro y2_2 v_2 hT
      exact hT.elim
    | succ n2 ih =>
      intro y2_2 v_2 hT hg hI H locs hP hS ls hl
      have hg : fX6_readNumber v x1 = (tX6_readNumber_2 v x1 (lpBs n2 (bX6_readNumber_2 v x1) (bX6_readNumber_2 v x1 (y2_2, v_2)))) := hg
      have hT : lpTs n2 (bX6_readNumber_2 v x1) (bX6_readNumber_2 v x1 (y2_2, v_2)) := hT
      refine lv_aload_n hC.1 hC.2.1 dX6_readNumber_2 rfl (lv_at hl 0 rfl) ?_
      refine runP (rV (B := fun U H => PW G (mdW G q v_2 hs) H) (As := []) (rest := []) hC mwX6_sign (c_X6_sign l G q v_2 hs hI) iwX6_sign wd_1090 ⟨rfl, rfl⟩ ⟨Nat.le_of_ble_eq_true rfl, Nat.le_of_ble_eq_true rfl⟩ (stb_h (fun H => PW G (mdW G q v_2 hs) H)) (hKN.go hAL hS) hP (va_recv (hKN.go hAL hS).k hP (ci := 6) (q0 := 0) rfl rfl) rfl hl.1 rfl (Nat.le_of_ble_eq_true rfl) dX6_readNumber_3 ⟨Nat.zero_le _, Nat.zero_le _⟩) ?_
      refine lv_iload_n hC.1 hC.2.1 dX6_readNumber_6 rfl (lv_at hl 2 rfl) ?_
      refine lv_if_ne (tgt := 15) hC.1 hC.2.1 dX6_readNumber_7 (by decide) (fun k7 => ?_) (fun k7 => ?_)
      · refine lv_bipush (v := 48) hC.1 hC.2.1 dX6_readNumber_15 (by decide +kernel) ?_
        refine lv_bipush (v := 57) hC.1 hC.2.1 dX6_readNumber_17 (by decide +kernel) ?_
        refine runP (rS (B := fun U H => True) (As := [.int (fX6_sign v_2), .int 48, .int 57]) (rest := []) hC mwX6_in (c_X6_in l G (fX6_sign v_2) 48 57) wd_975 wd_974 ⟨rfl, rfl⟩ ⟨Nat.le_of_ble_eq_true rfl, Nat.le_of_ble_eq_true rfl⟩ (fun _ _ _ _ h => h) (hKN.go hAL hS) trivial rfl hl.1 rfl (Nat.le_of_ble_eq_true rfl) dX6_readNumber_19 ⟨Nat.zero_le _, Nat.zero_le _⟩) ?_
        refine lv_if_eq (tgt := 67) hC.1 hC.2.1 dX6_readNumber_22 (by decide) (fun k22 => ?_) (fun k22 => ?_)
        · have e_2 : bX6_readNumber_2 v x1 (y2_2, v_2) = (false, (y2_2, v_2)) := by delta bX6_readNumber_2; exact Eq.trans (if_neg k7) (Eq.trans (if_pos k22) rfl)
          have hg : fX6_readNumber v x1 = (tX6_readNumber_2 v x1 (y2_2, v_2)) := by have e2 := congrArg (fun z => (tX6_readNumber_2 v x1 (lpBs n2 (bX6_readNumber_2 v x1) z))) e_2; exact hg.trans e2
          have hT : lpTs n2 (bX6_readNumber_2 v x1) (false, (y2_2, v_2)) := by rw [← e_2]; exact hT
          exact A2  y2_2 v_2 hg hI _ _ hP hS _ (lv_sub hl [2] rfl)
        · refine lv_bipush (v := 10) hC.1 hC.2.1 dX6_readNumber_25 (by decide +kernel) ?_
          refine lv_iload_n hC.1 hC.2.1 dX6_readNumber_27 rfl (lv_at hl 2 rfl) ?_
          refine lv_imul hC.1 hC.2.1 dX6_readNumber_28 ?_
          refine lv_aload_n hC.1 hC.2.1 dX6_readNumber_29 rfl (lv_at hl 0 rfl) ?_
          refine runP (rV (B := fun U H => PW G (mdW G q v_2 hs) H) (As := []) (rest := [.int (10 * y2_2)]) hC mwX6_sign (c_X6_sign l G q v_2 hs hI) iwX6_sign wd_1090 ⟨rfl, rfl⟩ ⟨Nat.le_of_ble_eq_true rfl, Nat.le_of_ble_eq_true rfl⟩ (stb_h (fun H => PW G (mdW G q v_2 hs) H)) (hKN.go hAL hS) hP (va_recv (hKN.go hAL hS).k hP (ci := 6) (q0 := 0) rfl rfl) rfl hl.1 rfl (Nat.le_of_ble_eq_true rfl) dX6_readNumber_30 ⟨Nat.zero_le _, Nat.zero_le _⟩) ?_
          refine lv_iadd hC.1 hC.2.1 dX6_readNumber_33 ?_
          refine lv_bipush (v := 48) hC.1 hC.2.1 dX6_readNumber_34 (by decide +kernel) ?_
          refine lv_isub hC.1 hC.2.1 dX6_readNumber_36 ?_
          refine lv_iload_n hC.1 hC.2.1 dX6_readNumber_37 rfl (lv_at hl 1 rfl) ?_
          refine lv_icmp_gt (tgt := 67) hC.1 hC.2.1 dX6_readNumber_38 (by decide) (fun k38 => ?_) (fun k38 => ?_)
          · have e_3 : bX6_readNumber_2 v x1 (y2_2, v_2) = (false, (y2_2, v_2)) := by delta bX6_readNumber_2; exact Eq.trans (if_neg k7) (Eq.trans (if_neg k22) (Eq.trans (if_pos k38) rfl))
            have hg : fX6_readNumber v x1 = (tX6_readNumber_2 v x1 (y2_2, v_2)) := by have e2 := congrArg (fun z => (tX6_readNumber_2 v x1 (lpBs n2 (bX6_readNumber_2 v x1) z))) e_3; exact hg.trans e2
            have hT : lpTs n2 (bX6_readNumber_2 v x1) (false, (y2_2, v_2)) := by rw [← e_3]; exact hT
            exact A2  y2_2 v_2 hg hI _ _ hP hS _ (lv_sub hl [2] rfl)
          · refine lv_bipush (v := 10) hC.1 hC.2.1 dX6_readNumber_41 (by decide +kernel) ?_
            refine lv_iload_n hC.1 hC.2.1 dX6_readNumber_43 rfl (lv_at hl 2 rfl) ?_
            refine lv_imul hC.1 hC.2.1 dX6_readNumber_44 ?_
            refine lv_aload_n hC.1 hC.2.1 dX6_readNumber_45 rfl (lv_at hl 0 rfl) ?_
            refine runP (rV (B := fun U H => PW G (mdW G q v_2 hs) H) (As := []) (rest := [.int (10 * y2_2)]) hC mwX6_sign (c_X6_sign l G q v_2 hs hI) iwX6_sign wd_1090 ⟨rfl, rfl⟩ ⟨Nat.le_of_ble_eq_true rfl, Nat.le_of_ble_eq_true rfl⟩ (stb_h (fun H => PW G (mdW G q v_2 hs) H)) (hKN.go hAL hS) hP (va_recv (hKN.go hAL hS).k hP (ci := 6) (q0 := 0) rfl rfl) rfl hl.1 rfl (Nat.le_of_ble_eq_true rfl) dX6_readNumber_46 ⟨Nat.zero_le _, Nat.zero_le _⟩) ?_
            refine lv_iadd hC.1 hC.2.1 dX6_readNumber_49 ?_
            refine lv_bipush (v := 48) hC.1 hC.2.1 dX6_readNumber_50 (by decide +kernel) ?_
            refine lv_isub hC.1 hC.2.1 dX6_readNumber_52 ?_
            refine lv_istore_n (lv' := [(2, .int (((10 * y2_2) + (fX6_sign v_2)) - 48)), (0, .ref (q 0)), (1, .int x1)]) hC.1 hC.2.1 dX6_readNumber_53 rfl hl (by decide) rfl (fun ls hl => ?_)
            refine lv_aload_n hC.1 hC.2.1 dX6_readNumber_54 rfl (lv_at hl 1 rfl) ?_
            refine lv_dup hC.1 hC.2.1 dX6_readNumber_55 rfl ?_
            refine gf (v := .int (v_2 8 7)) hC fwX6 (hKN.go hAL hS) hP 0 rfl rfl 12 (by decide) rfl wd_899 rfl dX6_readNumber_56 ?_
            refine lv_iconst (v := 1) hC.1 hC.2.1 dX6_readNumber_59 (by decide) ?_
            refine lv_iadd hC.1 hC.2.1 dX6_readNumber_60 ?_
            refine lv_topi (fun w_4 ew_4 => ?_)
            refine pf (v := .int w_4) (tv := .int) hC fwX6 (hKN.go hAL hS) hP (mdD_D hq v_2 hs) hS 0 rfl rfl 12 (by decide) rfl wd_899 rfl rfl rfl (Nat.le_of_ble_eq_true rfl) dX6_readNumber_61 (fun H locs hq_5 hS => ?_)
            have hP : PW G (mdW G q (mkM (v_2 0) (v_2 1) (v_2 2) (v_2 3) (v_2 4) (v_2 5) (v_2 6) (v_2 7) (v_2 8 0) (v_2 8 1) (v_2 8 2) (v_2 8 3) (v_2 8 4) (v_2 8 5) (v_2 8 6) w_4 (v_2 8 8)) hs) H := hq_5
            have hI : BI (mkM (v_2 0) (v_2 1) (v_2 2) (v_2 3) (v_2 4) (v_2 5) (v_2 6) (v_2 7) (v_2 8 0) (v_2 8 1) (v_2 8 2) (v_2 8 3) (v_2 8 4) (v_2 8 5) (v_2 8 6) w_4 (v_2 8 8)) := (by first | exact BI_inc ew_4 hI rfl (in_ne0 (by decide) k22) rfl rfl)
            refine lv_goto (tgt := 2) hC.1 hC.2.1 dX6_readNumber_64 (by decide) ?_
            have e_6 : bX6_readNumber_2 v x1 (y2_2, v_2) = (true, (((10 * y2_2) + (fX6_sign v_2)) - 48, mkM (v_2 0) (v_2 1) (v_2 2) (v_2 3) (v_2 4) (v_2 5) (v_2 6) (v_2 7) (v_2 8 0) (v_2 8 1) (v_2 8 2) (v_2 8 3) (v_2 8 4) (v_2 8 5) (v_2 8 6) w_4 (v_2 8 8))) := by have q_ := ew_4.symm; subst q_; delta bX6_readNumber_2; exact Eq.trans (if_neg k7) (Eq.trans (if_neg k22) (Eq.trans (if_neg k38) rfl))
            have hg : fX6_readNumber v x1 = (tX6_readNumber_2 v x1 (lpB n2 (bX6_readNumber_2 v x1) (((10 * y2_2) + (fX6_sign v_2)) - 48, mkM (v_2 0) (v_2 1) (v_2 2) (v_2 3) (v_2 4) (v_2 5) (v_2 6) (v_2 7) (v_2 8 0) (v_2 8 1) (v_2 8 2) (v_2 8 3) (v_2 8 4) (v_2 8 5) (v_2 8 6) w_4 (v_2 8 8)))) := by have e2 := congrArg (fun z => (tX6_readNumber_2 v x1 (lpBs n2 (bX6_readNumber_2 v x1) z))) e_6; exact hg.trans e2
            have hT : lpTs n2 (bX6_readNumber_2 v x1) (true, (((10 * y2_2) + (fX6_sign v_2)) - 48, mkM (v_2 0) (v_2 1) (v_2 2) (v_2 3) (v_2 4) (v_2 5) (v_2 6) (v_2 7) (v_2 8 0) (v_2 8 1) (v_2 8 2) (v_2 8 3) (v_2 8 4) (v_2 8 5) (v_2 8 6) w_4 (v_2 8 8))) := by rw [← e_6]; exact hT
            exact ih (((10 * y2_2) + (fX6_sign v_2)) - 48) (mkM (v_2 0) (v_2 1) (v_2 2) (v_2 3) (v_2 4) (v_2 5) (v_2 6) (v_2 7) (v_2 8 0) (v_2 8 1) (v_2 8 2) (v_2 8 3) (v_2 8 4) (v_2 8 5) (v_2 8 6) w_4 (v_2 8 8)) (lpT_go hT) hg hI _ _ hP hS _ (lv_sub hl [1, 2, 0] rfl)
      · refine lv_bipush (v := 49) hC.1 hC.2.1 dX6_readNumber_10 (by decide +kernel) ?_
        refine lv_goto (tgt := 17) hC.1 hC.2.1 dX6_readNumber_12 (by decide) ?_
        refine lv_bipush (v := 57) hC.1 hC.2.1 dX6_readNumber_17 (by decide +kernel) ?_
        refine runP (rS (B := fun U H => True) (As := [.int (fX6_sign v_2), .int 49, .int 57]) (rest := []) hC mwX6_in (c_X6_in l G (fX6_sign v_2) 49 57) wd_975 wd_974 ⟨rfl, rfl⟩ ⟨Nat.le_of_ble_eq_true rfl, Nat.le_of_ble_eq_true rfl⟩ (fun _ _ _ _ h => h) (hKN.go hAL hS) trivial rfl hl.1 rfl (Nat.le_of_ble_eq_true rfl) dX6_readNumber_19 ⟨Nat.zero_le _, Nat.zero_le _⟩) ?_
        refine lv_if_eq (tgt := 67) hC.1 hC.2.1 dX6_readNumber_22 (by decide) (fun k22 => ?_) (fun k22 => ?_)
        · have e_7 : bX6_readNumber_2 v x1 (y2_2, v_2) = (false, (y2_2, v_2)) := by delta bX6_readNumber_2; exact Eq.trans (if_pos k7) (Eq.trans (if_pos k22) rfl)
          have hg : fX6_readNumber v x1 = (tX6_readNumber_2 v x1 (y2_2, v_2)) := by have e2 := congrArg (fun z => (tX6_readNumber_2 v x1 (lpBs n2 (bX6_readNumber_2 v x1) z))) e_7; exact hg.trans e2
          have hT : lpTs n2 (bX6_readNumber_2 v x1) (false, (y2_2, v_2)) := by rw [← e_7]; exact hT
          exact A2  y2_2 v_2 hg hI _ _ hP hS _ (lv_sub hl [2] rfl)
        · refine lv_bipush (v := 10) hC.1 hC.2.1 dX6_readNumber_25 (by decide +kernel) ?_
          refine lv_iload_n hC.1 hC.2.1 dX6_readNumber_27 rfl (lv_at hl 2 rfl) ?_
          refine lv_imul hC.1 hC.2.1 dX6_readNumber_28 ?_
          refine lv_aload_n hC.1 hC.2.1 dX6_readNumber_29 rfl (lv_at hl 0 rfl) ?_
          refine runP (rV (B := fun U H => PW G (mdW G q v_2 hs) H) (As := []) (rest := [.int (10 * y2_2)]) hC mwX6_sign (c_X6_sign l G q v_2 hs hI) iwX6_sign wd_1090 ⟨rfl, rfl⟩ ⟨Nat.le_of_ble_eq_true rfl, Nat.le_of_ble_eq_true rfl⟩ (stb_h (fun H => PW G (mdW G q v_2 hs) H)) (hKN.go hAL hS) hP (va_recv (hKN.go hAL hS).k hP (ci := 6) (q0 := 0) rfl rfl) rfl hl.1 rfl (Nat.le_of_ble_eq_true rfl) dX6_readNumber_30 ⟨Nat.zero_le _, Nat.zero_le _⟩) ?_
          refine lv_iadd hC.1 hC.2.1 dX6_readNumber_33 ?_
          refine lv_bipush (v := 48) hC.1 hC.2.1 dX6_readNumber_34 (by decide +kernel) ?_
          refine lv_isub hC.1 hC.2.1 dX6_readNumber_36 ?_
          refine lv_iload_n hC.1 hC.2.1 dX6_readNumber_37 rfl (lv_at hl 1 rfl) ?_
          refine lv_icmp_gt (tgt := 67) hC.1 hC.2.1 dX6_readNumber_38 (by decide) (fun k38 => ?_) (fun k38 => ?_)
          · have e_8 : bX6_readNumber_2 v x1 (y2_2, v_2) = (false, (y2_2, v_2)) := by delta bX6_readNumber_2; exact Eq.trans (if_pos k7) (Eq.trans (if_neg k22) (Eq.trans (if_pos k38) rfl))
            have hg : fX6_readNumber v x1 = (tX6_readNumber_2 v x1 (y2_2, v_2)) := by have e2 := congrArg (fun z => (tX6_readNumber_2 v x1 (lpBs n2 (bX6_readNumber_2 v x1) z))) e_8; exact hg.trans e2
            have hT : lpTs n2 (bX6_readNumber_2 v x1) (false, (y2_2, v_2)) := by rw [← e_8]; exact hT
            exact A2  y2_2 v_2 hg hI _ _ hP hS _ (lv_sub hl [2] rfl)
          · refine lv_bipush (v := 10) hC.1 hC.2.1 dX6_readNumber_41 (by decide +kernel) ?_
            refine lv_iload_n hC.1 hC.2.1 dX6_readNumber_43 rfl (lv_at hl 2 rfl) ?_
            refine lv_imul hC.1 hC.2.1 dX6_readNumber_44 ?_
            refine lv_aload_n hC.1 hC.2.1 dX6_readNumber_45 rfl (lv_at hl 0 rfl) ?_
            refine runP (rV (B := fun U H => PW G (mdW G q v_2 hs) H) (As := []) (rest := [.int (10 * y2_2)]) hC mwX6_sign (c_X6_sign l G q v_2 hs hI) iwX6_sign wd_1090 ⟨rfl, rfl⟩ ⟨Nat.le_of_ble_eq_true rfl, Nat.le_of_ble_eq_true rfl⟩ (stb_h (fun H => PW G (mdW G q v_2 hs) H)) (hKN.go hAL hS) hP (va_recv (hKN.go hAL hS).k hP (ci := 6) (q0 := 0) rfl rfl) rfl hl.1 rfl (Nat.le_of_ble_eq_true rfl) dX6_readNumber_46 ⟨Nat.zero_le _, Nat.zero_le _⟩) ?_
            refine lv_iadd hC.1 hC.2.1 dX6_readNumber_49 ?_
            refine lv_bipush (v := 48) hC.1 hC.2.1 dX6_readNumber_50 (by decide +kernel) ?_
            refine lv_isub hC.1 hC.2.1 dX6_readNumber_52 ?_
            refine lv_istore_n (lv' := [(2, .int (((10 * y2_2) + (fX6_sign v_2)) - 48)), (0, .ref (q 0)), (1, .int x1)]) hC.1 hC.2.1 dX6_readNumber_53 rfl hl (by decide) rfl (fun ls hl => ?_)
            refine lv_aload_n hC.1 hC.2.1 dX6_readNumber_54 rfl (lv_at hl 1 rfl) ?_
            refine lv_dup hC.1 hC.2.1 dX6_readNumber_55 rfl ?_
            refine gf (v := .int (v_2 8 7)) hC fwX6 (hKN.go hAL hS) hP 0 rfl rfl 12 (by decide) rfl wd_899 rfl dX6_readNumber_56 ?_
            refine lv_iconst (v := 1) hC.1 hC.2.1 dX6_readNumber_59 (by decide) ?_
            refine lv_iadd hC.1 hC.2.1 dX6_readNumber_60 ?_
            refine lv_topi (fun w_9 ew_9 => ?_)
            refine pf (v := .int w_9) (tv := .int) hC fwX6 (hKN.go hAL hS) hP (mdD_D hq v_2 hs) hS 0 rfl rfl 12 (by decide) rfl wd_899 rfl rfl rfl (Nat.le_of_ble_eq_true rfl) dX6_readNumber_61 (fun H locs hq_10 hS => ?_)
            have hP : PW G (mdW G q (mkM (v_2 0) (v_2 1) (v_2 2) (v_2 3) (v_2 4) (v_2 5) (v_2 6) (v_2 7) (v_2 8 0) (v_2 8 1) (v_2 8 2) (v_2 8 3) (v_2 8 4) (v_2 8 5) (v_2 8 6) w_9 (v_2 8 8)) hs) H := hq_10
            have hI : BI (mkM (v_2 0) (v_2 1) (v_2 2) (v_2 3) (v_2 4) (v_2 5) (v_2 6) (v_2 7) (v_2 8 0) (v_2 8 1) (v_2 8 2) (v_2 8 3) (v_2 8 4) (v_2 8 5) (v_2 8 6) w_9 (v_2 8 8)) := (by first | exact BI_inc ew_9 hI rfl (in_ne0 (by decide) k22) rfl rfl)
            refine lv_goto (tgt := 2) hC.1 hC.2.1 dX6_readNumber_64 (by decide) ?_
            have e_11 : bX6_readNumber_2 v x1 (y2_2, v_2) = (true, (((10 * y2_2) + (fX6_sign v_2)) - 48, mkM (v_2 0) (v_2 1) (v_2 2) (v_2 3) (v_2 4) (v_2 5) (v_2 6) (v_2 7) (v_2 8 0) (v_2 8 1) (v_2 8 2) (v_2 8 3) (v_2 8 4) (v_2 8 5) (v_2 8 6) w_9 (v_2 8 8))) := by have q_ := ew_9.symm; subst q_; delta bX6_readNumber_2; exact Eq.trans (if_pos k7) (Eq.trans (if_neg k22) (Eq.trans (if_neg k38) rfl))
            have hg : fX6_readNumber v x1 = (tX6_readNumber_2 v x1 (lpB n2 (bX6_readNumber_2 v x1) (((10 * y2_2) + (fX6_sign v_2)) - 48, mkM (v_2 0) (v_2 1) (v_2 2) (v_2 3) (v_2 4) (v_2 5) (v_2 6) (v_2 7) (v_2 8 0) (v_2 8 1) (v_2 8 2) (v_2 8 3) (v_2 8 4) (v_2 8 5) (v_2 8 6) w_9 (v_2 8 8)))) := by have e2 := congrArg (fun z => (tX6_readNumber_2 v x1 (lpBs n2 (bX6_readNumber_2 v x1) z))) e_11; exact hg.trans e2
            have hT : lpTs n2 (bX6_readNumber_2 v x1) (true, (((10 * y2_2) + (fX6_sign v_2)) - 48, mkM (v_2 0) (v_2 1) (v_2 2) (v_2 3) (v_2 4) (v_2 5) (v_2 6) (v_2 7) (v_2 8 0) (v_2 8 1) (v_2 8 2) (v_2 8 3) (v_2 8 4) (v_2 8 5) (v_2 8 6) w_9 (v_2 8 8))) := by rw [← e_11]; exact hT
            exact ih (((10 * y2_2) + (fX6_sign v_2)) - 48) (mkM (v_2 0) (v_2 1) (v_2 2) (v_2 3) (v_2 4) (v_2 5) (v_2 6) (v_2 7) (v_2 8 0) (v_2 8 1) (v_2 8 2) (v_2 8 3) (v_2 8 4) (v_2 8 5) (v_2 8 6) w_9 (v_2 8 8)) (lpT_go hT) hg hI _ _ hP hS _ (lv_sub hl [1, 2, 0] rfl)
  have e_12 : fX6_readNumber v x1 = tX6_readNumber_2 v x1 (lpB (mR + 1) (bX6_readNumber_2 v x1) (0, v)) := by delta fX6_readNumber; exact rfl
  have hg : fX6_readNumber v x1 = (tX6_readNumber_2 v x1 (lpB (mR + 1) (bX6_readNumber_2 v x1) (0, v))) := by have e2 := congrArg (fun z => z) e_12; exact hg.trans e2
  exact L2  (mR + 1) 0 v (T_readNumber v x1 _ _ hI) hg hI _ _ hP hS _ (lv_sub hl [1, 2, 0] rfl)

theorem dX6_readLine_0 : decode cX6_readLine 0 = .ok (.iconst 0, 1) := by decide +kernel
theorem dX6_readLine_1 : decode cX6_readLine 1 = .ok (.istore_n 1, 1) := by decide +kernel
theorem dX6_readLine_2 : decode cX6_readLine 2 = .ok (.iconst 0, 1) := by decide +kernel
theorem dX6_readLine_3 : decode cX6_readLine 3 = .ok (.istore_n 2, 1) := by decide +kernel
theorem dX6_readLine_4 : decode cX6_readLine 4 = .ok (.iload_n 2, 1) := by decide +kernel
theorem dX6_readLine_5 : decode cX6_readLine 5 = .ok (.bipush 6, 2) := by decide +kernel
theorem dX6_readLine_7 : decode cX6_readLine 7 = .ok (.if_icmp .ge 86, 3) := by decide +kernel
theorem dX6_readLine_10 : decode cX6_readLine 10 = .ok (.aload_n 0, 1) := by decide +kernel
theorem dX6_readLine_11 : decode cX6_readLine 11 = .ok (.invokevirtual 139, 3) := by decide +kernel
theorem dX6_readLine_14 : decode cX6_readLine 14 = .ok (.bipush 48, 2) := by decide +kernel
theorem dX6_readLine_16 : decode cX6_readLine 16 = .ok (.bipush 57, 2) := by decide +kernel
theorem dX6_readLine_18 : decode cX6_readLine 18 = .ok (.invokestatic 39, 3) := by decide +kernel
theorem dX6_readLine_21 : decode cX6_readLine 21 = .ok (.ifCond .eq 13, 3) := by decide +kernel
theorem dX6_readLine_24 : decode cX6_readLine 24 = .ok (.aload_n 0, 1) := by decide +kernel
theorem dX6_readLine_25 : decode cX6_readLine 25 = .ok (.invokevirtual 139, 3) := by decide +kernel
theorem dX6_readLine_28 : decode cX6_readLine 28 = .ok (.bipush 48, 2) := by decide +kernel
theorem dX6_readLine_30 : decode cX6_readLine 30 = .ok (.isub, 1) := by decide +kernel
theorem dX6_readLine_31 : decode cX6_readLine 31 = .ok (.goto 31, 3) := by decide +kernel
theorem dX6_readLine_34 : decode cX6_readLine 34 = .ok (.aload_n 0, 1) := by decide +kernel
theorem dX6_readLine_35 : decode cX6_readLine 35 = .ok (.invokevirtual 139, 3) := by decide +kernel
theorem dX6_readLine_38 : decode cX6_readLine 38 = .ok (.bipush 97, 2) := by decide +kernel
theorem dX6_readLine_40 : decode cX6_readLine 40 = .ok (.bipush 102, 2) := by decide +kernel
theorem dX6_readLine_42 : decode cX6_readLine 42 = .ok (.invokestatic 39, 3) := by decide +kernel
theorem dX6_readLine_45 : decode cX6_readLine 45 = .ok (.ifCond .eq 16, 3) := by decide +kernel
theorem dX6_readLine_48 : decode cX6_readLine 48 = .ok (.aload_n 0, 1) := by decide +kernel
theorem dX6_readLine_49 : decode cX6_readLine 49 = .ok (.invokevirtual 139, 3) := by decide +kernel
theorem dX6_readLine_52 : decode cX6_readLine 52 = .ok (.bipush 97, 2) := by decide +kernel
theorem dX6_readLine_54 : decode cX6_readLine 54 = .ok (.isub, 1) := by decide +kernel
theorem dX6_readLine_55 : decode cX6_readLine 55 = .ok (.bipush 10, 2) := by decide +kernel
theorem dX6_readLine_57 : decode cX6_readLine 57 = .ok (.iadd, 1) := by decide +kernel
theorem dX6_readLine_58 : decode cX6_readLine 58 = .ok (.goto 4, 3) := by decide +kernel
theorem dX6_readLine_61 : decode cX6_readLine 61 = .ok (.iconst (-1), 1) := by decide +kernel
theorem dX6_readLine_62 : decode cX6_readLine 62 = .ok (.istore_n 3, 1) := by decide +kernel
theorem dX6_readLine_63 : decode cX6_readLine 63 = .ok (.iload_n 3, 1) := by decide +kernel
theorem dX6_readLine_64 : decode cX6_readLine 64 = .ok (.iconst (-1), 1) := by decide +kernel
theorem dX6_readLine_65 : decode cX6_readLine 65 = .ok (.if_icmp .ne 5, 3) := by decide +kernel
theorem dX6_readLine_68 : decode cX6_readLine 68 = .ok (.iconst 0, 1) := by decide +kernel
theorem dX6_readLine_69 : decode cX6_readLine 69 = .ok (.ireturn, 1) := by decide +kernel
theorem dX6_readLine_70 : decode cX6_readLine 70 = .ok (.bipush 16, 2) := by decide +kernel
theorem dX6_readLine_72 : decode cX6_readLine 72 = .ok (.iload_n 1, 1) := by decide +kernel
theorem dX6_readLine_73 : decode cX6_readLine 73 = .ok (.imul, 1) := by decide +kernel
theorem dX6_readLine_74 : decode cX6_readLine 74 = .ok (.iload_n 3, 1) := by decide +kernel
theorem dX6_readLine_75 : decode cX6_readLine 75 = .ok (.iadd, 1) := by decide +kernel
theorem dX6_readLine_76 : decode cX6_readLine 76 = .ok (.istore_n 1, 1) := by decide +kernel
theorem dX6_readLine_77 : decode cX6_readLine 77 = .ok (.aload_n 0, 1) := by decide +kernel
theorem dX6_readLine_78 : decode cX6_readLine 78 = .ok (.dup, 1) := by decide +kernel
theorem dX6_readLine_79 : decode cX6_readLine 79 = .ok (.getfield 136, 3) := by decide +kernel
theorem dX6_readLine_82 : decode cX6_readLine 82 = .ok (.iconst 1, 1) := by decide +kernel
theorem dX6_readLine_83 : decode cX6_readLine 83 = .ok (.iadd, 1) := by decide +kernel
theorem dX6_readLine_84 : decode cX6_readLine 84 = .ok (.putfield 136, 3) := by decide +kernel
theorem dX6_readLine_87 : decode cX6_readLine 87 = .ok (.iinc 2 1, 3) := by decide +kernel
theorem dX6_readLine_90 : decode cX6_readLine 90 = .ok (.goto (-86), 3) := by decide +kernel
theorem dX6_readLine_93 : decode cX6_readLine 93 = .ok (.aload_n 0, 1) := by decide +kernel
theorem dX6_readLine_94 : decode cX6_readLine 94 = .ok (.bipush 42, 2) := by decide +kernel
theorem dX6_readLine_96 : decode cX6_readLine 96 = .ok (.invokevirtual 142, 3) := by decide +kernel
theorem dX6_readLine_99 : decode cX6_readLine 99 = .ok (.ifCond .eq 12, 3) := by decide +kernel
theorem dX6_readLine_102 : decode cX6_readLine 102 = .ok (.aload_n 0, 1) := by decide +kernel
theorem dX6_readLine_103 : decode cX6_readLine 103 = .ok (.bipush 20, 2) := by decide +kernel
theorem dX6_readLine_105 : decode cX6_readLine 105 = .ok (.invokevirtual 148, 3) := by decide +kernel
theorem dX6_readLine_108 : decode cX6_readLine 108 = .ok (.goto 4, 3) := by decide +kernel
theorem dX6_readLine_111 : decode cX6_readLine 111 = .ok (.iconst 1, 1) := by decide +kernel
theorem dX6_readLine_112 : decode cX6_readLine 112 = .ok (.istore_n 2, 1) := by decide +kernel
theorem dX6_readLine_113 : decode cX6_readLine 113 = .ok (.iload_n 2, 1) := by decide +kernel
theorem dX6_readLine_114 : decode cX6_readLine 114 = .ok (.ifCond .le 17, 3) := by decide +kernel
theorem dX6_readLine_117 : decode cX6_readLine 117 = .ok (.aload_n 0, 1) := by decide +kernel
theorem dX6_readLine_118 : decode cX6_readLine 118 = .ok (.iconst 0, 1) := by decide +kernel
theorem dX6_readLine_119 : decode cX6_readLine 119 = .ok (.iload_n 1, 1) := by decide +kernel
theorem dX6_readLine_120 : decode cX6_readLine 120 = .ok (.iload_n 2, 1) := by decide +kernel
theorem dX6_readLine_121 : decode cX6_readLine 121 = .ok (.invokevirtual 151, 3) := by decide +kernel
theorem dX6_readLine_124 : decode cX6_readLine 124 = .ok (.ifCond .eq 7, 3) := by decide +kernel
theorem dX6_readLine_127 : decode cX6_readLine 127 = .ok (.iconst 1, 1) := by decide +kernel
theorem dX6_readLine_128 : decode cX6_readLine 128 = .ok (.goto 4, 3) := by decide +kernel
theorem dX6_readLine_131 : decode cX6_readLine 131 = .ok (.iconst 0, 1) := by decide +kernel
theorem dX6_readLine_132 : decode cX6_readLine 132 = .ok (.ireturn, 1) := by decide +kernel
set_option maxHeartbeats 1000000 in
set_option maxRecDepth 100000 in
theorem c_X6_readLine (l : Launch) (G : GT) (q : Nat → Nat) (v : SV) (hs : Int64) (hq : mdD G q) (hI : PB v) : Met l yX6_readLine (Cond.code yX6_readLine cX6_readLine 4 (some .boolean) :: bigW) ({ frames := 2, cells := 0, slots := 0, locals := 44 }) (BP G [.ref (q 0)] (fun U H => PW G (mdW G q v hs) H)) (QE (some (.int (fX6_readLine v).2)) (fun H => PW G (mdW G q (fX6_readLine v).1 hs) H) (mdA q)) 0 0 (mdA q) := by
  refine met_of (by decide) (Nat.le_of_ble_eq_true rfl) ?_
  intro p e s m below meth c ls hC hKN hB0 hl
  have hP := hB0
  have hl : lv_has ls 4 [(0, .ref (q 0))] := hl
  have hS : va_S (mdA q) s.heap s.heap [] := va_S.rf
  have hAL : ∀ a, (mdA q) a → gL G ≤ a := mdD_low hq
  have hg : fX6_readLine v = fX6_readLine v := rfl
  refine lv_iconst (v := 0) hC.1 hC.2.1 dX6_readLine_0 (by decide) ?_
  refine lv_istore_n (lv' := [(1, .int 0), (0, .ref (q 0))]) hC.1 hC.2.1 dX6_readLine_1 rfl hl (by decide) rfl (fun ls hl => ?_)
  refine lv_iconst (v := 0) hC.1 hC.2.1 dX6_readLine_2 (by decide) ?_
  refine lv_istore_n (lv' := [(2, .int 0), (1, .int 0), (0, .ref (q 0))]) hC.1 hC.2.1 dX6_readLine_3 rfl hl (by decide) rfl (fun ls hl => ?_)
  have A4 : ∀ (y1_4 : Int32) (v_4 : SV), fX6_readLine v = (tX6_readLine_4 v (y1_4, v_4)) → PB v_4 → ∀ (H : Heap) (locs : List Loc), PW G (mdW G q v_4 hs) H → va_S (mdA q) s.heap H locs → ∀ (ls : Array Slot), lv_has ls 4 [(0, .ref (q 0)), (1, .int y1_4)] → W p l e ({ frames := 2, cells := 0, slots := 0, locals := 44 }) s m ([.ref (q 0)] : List Value).toArray below meth c H locs 0 0 (MQ below (QE (some (.int (fX6_readLine v).2)) (fun H => PW G (mdW G q (fX6_readLine v).1 hs) H) (mdA q)) ([.ref (q 0)] : List Value).toArray s 0 0 (mdA q)) (F0 m 93 ls []) := by
    intro  y1_4 v_4 hg hI H locs hP hS ls hl
    refine lv_aload_n hC.1 hC.2.1 dX6_readLine_93 rfl (lv_at hl 0 rfl) ?_
    refine lv_bipush (v := 42) hC.1 hC.2.1 dX6_readLine_94 (by decide +kernel) ?_
    refine runE (rV (B := fun U H => PW G (mdW G q v_4 hs) H) (As := [.int 42]) (rest := []) hC mwX6_takes (c_X6_takes l G q v_4 hs 42 hq hI.1 (by decide)) iwX6_takes wd_1086 ⟨rfl, rfl⟩ ⟨Nat.le_of_ble_eq_true rfl, Nat.le_of_ble_eq_true rfl⟩ (stb_h (fun H => PW G (mdW G q v_4 hs) H)) (hKN.go hAL hS) hP (va_recv (hKN.go hAL hS).k hP (ci := 6) (q0 := 0) rfl rfl) rfl hl.1 rfl (Nat.le_of_ble_eq_true rfl) dX6_readLine_96 ⟨Nat.zero_le _, Nat.zero_le _⟩) hS (fun _ h => h) (fun _ h => h) (fun H locs hq_1 _ _ hS => ?_)
    have hP : PW G (mdW G q ((fX6_takes v_4 42).1) hs) H := hq_1
    obtain ⟨r_2, er_2⟩ : ∃ z, z = fX6_takes v_4 42 := ⟨_, rfl⟩
    rw [← er_2] at hP
    show W p l e ({ frames := 2, cells := 0, slots := 0, locals := 44 }) s m ([.ref (q 0)] : List Value).toArray below meth c H locs (0 + 0) (0 + 0) _ (F0 m (96 + 3) ls [.int ((fX6_takes v_4 42).2)])
    rw [← er_2]
    have hI : PB r_2.1 := by rw [er_2]; exact (PB_takes hI (by decide))
    refine lv_if_eq (tgt := 111) hC.1 hC.2.1 dX6_readLine_99 (by decide) (fun k99 => ?_) (fun k99 => ?_)
    · refine lv_iconst (v := 1) hC.1 hC.2.1 dX6_readLine_111 (by decide) ?_
      refine lv_istore_n (lv' := [(2, .int 1), (0, .ref (q 0)), (1, .int y1_4)]) hC.1 hC.2.1 dX6_readLine_112 rfl hl (by decide) rfl (fun ls hl => ?_)
      refine lv_iload_n hC.1 hC.2.1 dX6_readLine_113 rfl (lv_at hl 0 rfl) ?_
      refine lv_if_le (tgt := 131) hC.1 hC.2.1 dX6_readLine_114 (by decide) (fun k114 => ?_) (fun k114 => ?_)
      · exact absurd k114 (by decide)
      · refine lv_aload_n hC.1 hC.2.1 dX6_readLine_117 rfl (lv_at hl 1 rfl) ?_
        refine lv_iconst (v := 0) hC.1 hC.2.1 dX6_readLine_118 (by decide) ?_
        refine lv_iload_n hC.1 hC.2.1 dX6_readLine_119 rfl (lv_at hl 2 rfl) ?_
        refine lv_iload_n hC.1 hC.2.1 dX6_readLine_120 rfl (lv_at hl 0 rfl) ?_
        refine runE (rV (B := fun U H => PW G (mdW G q r_2.1 hs) H) (As := [.int 0, .int y1_4, .int 1]) (rest := []) hC mwX6_addPart (c_X6_addPart l G q r_2.1 hs 0 y1_4 1 hq hI.2) iwX6_addPart wd_1106 ⟨rfl, rfl⟩ ⟨Nat.le_of_ble_eq_true rfl, Nat.le_of_ble_eq_true rfl⟩ (stb_h (fun H => PW G (mdW G q r_2.1 hs) H)) (hKN.go hAL hS) hP (va_recv (hKN.go hAL hS).k hP (ci := 6) (q0 := 0) rfl rfl) rfl hl.1 rfl (Nat.le_of_ble_eq_true rfl) dX6_readLine_121 ⟨Nat.zero_le _, Nat.zero_le _⟩) hS (fun _ h => h) (fun _ h => h) (fun H locs hq_3 _ _ hS => ?_)
        have hP : PW G (mdW G q ((fX6_addPart r_2.1 0 y1_4 1).1) hs) H := hq_3
        obtain ⟨r_4, er_4⟩ : ∃ z, z = fX6_addPart r_2.1 0 y1_4 1 := ⟨_, rfl⟩
        rw [← er_4] at hP
        show W p l e ({ frames := 2, cells := 0, slots := 0, locals := 44 }) s m ([.ref (q 0)] : List Value).toArray below meth c H locs (0 + 0) (0 + 0) _ (F0 m (121 + 3) ls [.int ((fX6_addPart r_2.1 0 y1_4 1).2)])
        rw [← er_4]
        have hI : True := trivial
        refine lv_if_eq (tgt := 131) hC.1 hC.2.1 dX6_readLine_124 (by decide) (fun k124 => ?_) (fun k124 => ?_)
        · refine lv_iconst (v := 0) hC.1 hC.2.1 dX6_readLine_131 (by decide) ?_
          have e_5 : tX6_readLine_4 v (y1_4, v_4) = (r_4.1, 0) := by have q_ := er_4.symm; subst q_; have q_ := er_2.symm; subst q_; delta tX6_readLine_4; exact Eq.trans (if_pos k99) (Eq.trans (if_pos k124) rfl)
          have hg : fX6_readLine v = (r_4.1, 0) := by have e2 := congrArg (fun z => z) e_5; exact hg.trans e2
          exact eE_z hC (by rw [hg]) rfl (by show PW G (mdW G q (fX6_readLine v).1 hs) H; rw [hg]; exact hP) hS dX6_readLine_132
        · refine lv_iconst (v := 1) hC.1 hC.2.1 dX6_readLine_127 (by decide) ?_
          refine lv_goto (tgt := 132) hC.1 hC.2.1 dX6_readLine_128 (by decide) ?_
          have e_6 : tX6_readLine_4 v (y1_4, v_4) = (r_4.1, 1) := by have q_ := er_4.symm; subst q_; have q_ := er_2.symm; subst q_; delta tX6_readLine_4; exact Eq.trans (if_pos k99) (Eq.trans (if_neg k124) rfl)
          have hg : fX6_readLine v = (r_4.1, 1) := by have e2 := congrArg (fun z => z) e_6; exact hg.trans e2
          exact eE_z hC (by rw [hg]) rfl (by show PW G (mdW G q (fX6_readLine v).1 hs) H; rw [hg]; exact hP) hS dX6_readLine_132
    · refine lv_aload_n hC.1 hC.2.1 dX6_readLine_102 rfl (lv_at hl 0 rfl) ?_
      refine lv_bipush (v := 20) hC.1 hC.2.1 dX6_readLine_103 (by decide +kernel) ?_
      refine runE (rV (B := fun U H => PW G (mdW G q r_2.1 hs) H) (As := [.int 20]) (rest := []) hC mwX6_readNumber (c_X6_readNumber l G q r_2.1 hs 20 hq hI.1) iwX6_readNumber wd_1102 ⟨rfl, rfl⟩ ⟨Nat.le_of_ble_eq_true rfl, Nat.le_of_ble_eq_true rfl⟩ (stb_h (fun H => PW G (mdW G q r_2.1 hs) H)) (hKN.go hAL hS) hP (va_recv (hKN.go hAL hS).k hP (ci := 6) (q0 := 0) rfl rfl) rfl hl.1 rfl (Nat.le_of_ble_eq_true rfl) dX6_readLine_105 ⟨Nat.zero_le _, Nat.zero_le _⟩) hS (fun _ h => h) (fun _ h => h) (fun H locs hq_7 _ _ hS => ?_)
      have hP : PW G (mdW G q ((fX6_readNumber r_2.1 20).1) hs) H := hq_7
      obtain ⟨r_8, er_8⟩ : ∃ z, z = fX6_readNumber r_2.1 20 := ⟨_, rfl⟩
      rw [← er_8] at hP
      show W p l e ({ frames := 2, cells := 0, slots := 0, locals := 44 }) s m ([.ref (q 0)] : List Value).toArray below meth c H locs (0 + 0) (0 + 0) _ (F0 m (105 + 3) ls [.int ((fX6_readNumber r_2.1 20).2)])
      rw [← er_8]
      have hI : PB r_8.1 := by rw [er_8]; exact (PB_readNumber _ hI)
      refine lv_goto (tgt := 112) hC.1 hC.2.1 dX6_readLine_108 (by decide) ?_
      refine lv_istore_n (lv' := [(2, .int r_8.2), (0, .ref (q 0)), (1, .int y1_4)]) hC.1 hC.2.1 dX6_readLine_112 rfl hl (by decide) rfl (fun ls hl => ?_)
      refine lv_iload_n hC.1 hC.2.1 dX6_readLine_113 rfl (lv_at hl 0 rfl) ?_
      refine lv_if_le (tgt := 131) hC.1 hC.2.1 dX6_readLine_114 (by decide) (fun k114 => ?_) (fun k114 => ?_)
      · refine lv_iconst (v := 0) hC.1 hC.2.1 dX6_readLine_131 (by decide) ?_
        have e_9 : tX6_readLine_4 v (y1_4, v_4) = (r_8.1, 0) := by have q_ := er_8.symm; subst q_; have q_ := er_2.symm; subst q_; delta tX6_readLine_4; exact Eq.trans (if_neg k99) (Eq.trans (if_pos k114) rfl)
        have hg : fX6_readLine v = (r_8.1, 0) := by have e2 := congrArg (fun z => z) e_9; exact hg.trans e2
        exact eE_z hC (by rw [hg]) rfl (by show PW G (mdW G q (fX6_readLine v).1 hs) H; rw [hg]; exact hP) hS dX6_readLine_132
      · refine lv_aload_n hC.1 hC.2.1 dX6_readLine_117 rfl (lv_at hl 1 rfl) ?_
        refine lv_iconst (v := 0) hC.1 hC.2.1 dX6_readLine_118 (by decide) ?_
        refine lv_iload_n hC.1 hC.2.1 dX6_readLine_119 rfl (lv_at hl 2 rfl) ?_
        refine lv_iload_n hC.1 hC.2.1 dX6_readLine_120 rfl (lv_at hl 0 rfl) ?_
        refine runE (rV (B := fun U H => PW G (mdW G q r_8.1 hs) H) (As := [.int 0, .int y1_4, .int r_8.2]) (rest := []) hC mwX6_addPart (c_X6_addPart l G q r_8.1 hs 0 y1_4 r_8.2 hq hI.2) iwX6_addPart wd_1106 ⟨rfl, rfl⟩ ⟨Nat.le_of_ble_eq_true rfl, Nat.le_of_ble_eq_true rfl⟩ (stb_h (fun H => PW G (mdW G q r_8.1 hs) H)) (hKN.go hAL hS) hP (va_recv (hKN.go hAL hS).k hP (ci := 6) (q0 := 0) rfl rfl) rfl hl.1 rfl (Nat.le_of_ble_eq_true rfl) dX6_readLine_121 ⟨Nat.zero_le _, Nat.zero_le _⟩) hS (fun _ h => h) (fun _ h => h) (fun H locs hq_10 _ _ hS => ?_)
        have hP : PW G (mdW G q ((fX6_addPart r_8.1 0 y1_4 r_8.2).1) hs) H := hq_10
        obtain ⟨r_11, er_11⟩ : ∃ z, z = fX6_addPart r_8.1 0 y1_4 r_8.2 := ⟨_, rfl⟩
        rw [← er_11] at hP
        show W p l e ({ frames := 2, cells := 0, slots := 0, locals := 44 }) s m ([.ref (q 0)] : List Value).toArray below meth c H locs (0 + 0) (0 + 0) _ (F0 m (121 + 3) ls [.int ((fX6_addPart r_8.1 0 y1_4 r_8.2).2)])
        rw [← er_11]
        have hI : True := trivial
        refine lv_if_eq (tgt := 131) hC.1 hC.2.1 dX6_readLine_124 (by decide) (fun k124 => ?_) (fun k124 => ?_)
        · refine lv_iconst (v := 0) hC.1 hC.2.1 dX6_readLine_131 (by decide) ?_
          have e_12 : tX6_readLine_4 v (y1_4, v_4) = (r_11.1, 0) := by have q_ := er_11.symm; subst q_; have q_ := er_8.symm; subst q_; have q_ := er_2.symm; subst q_; delta tX6_readLine_4; exact Eq.trans (if_neg k99) (Eq.trans (if_neg k114) (Eq.trans (if_pos k124) rfl))
          have hg : fX6_readLine v = (r_11.1, 0) := by have e2 := congrArg (fun z => z) e_12; exact hg.trans e2
          exact eE_z hC (by rw [hg]) rfl (by show PW G (mdW G q (fX6_readLine v).1 hs) H; rw [hg]; exact hP) hS dX6_readLine_132
        · refine lv_iconst (v := 1) hC.1 hC.2.1 dX6_readLine_127 (by decide) ?_
          refine lv_goto (tgt := 132) hC.1 hC.2.1 dX6_readLine_128 (by decide) ?_
          have e_13 : tX6_readLine_4 v (y1_4, v_4) = (r_11.1, 1) := by have q_ := er_11.symm; subst q_; have q_ := er_8.symm; subst q_; have q_ := er_2.symm; subst q_; delta tX6_readLine_4; exact Eq.trans (if_neg k99) (Eq.trans (if_neg k114) (Eq.trans (if_neg k124) rfl))
          have hg : fX6_readLine v = (r_11.1, 1) := by have e2 := congrArg (fun z => z) e_13; exact hg.trans e2
          exact eE_z hC (by rw [hg]) rfl (by show PW G (mdW G q (fX6_readLine v).1 hs) H; rw [hg]; exact hP) hS dX6_readLine_132
  have L4 : ∀ (n4 d4 : Nat), ∀ (y1_4 : Int32) (v_4 : SV), d4 + n4 = 6 → fX6_readLine v = (Sum.elim (tX6_readLine_4 v) id (lpR n4 d4 (bX6_readLine_4 v) (y1_4, v_4))) → PB v_4 → ∀ (H : Heap) (locs : List Loc), PW G (mdW G q v_4 hs) H → va_S (mdA q) s.heap H locs → ∀ (ls : Array Slot), lv_has ls 4 [(0, .ref (q 0)), (1, .int y1_4), (2, .int (nI d4))] → W p l e ({ frames := 2, cells := 0, slots := 0, locals := 44 }) s m ([.ref (q 0)] : List Value).toArray below meth c H locs 0 0 (MQ below (QE (some (.int (fX6_readLine v).2)) (fun H => PW G (mdW G q (fX6_readLine v).1 hs) H) (mdA q)) ([.ref (q 0)] : List Value).toArray s 0 0 (mdA q)) (F0 m 4 ls []) := by
    intro n4
    induction n4 with
    | zero =>
      intro d4 y1_4 v_4 hd hg hI H locs hP hS ls hl
      refine lv_iload_n hC.1 hC.2.1 dX6_readLine_4 rfl (lv_at hl 2 rfl) ?_
      refine lv_bipush (v := 6) hC.1 hC.2.1 dX6_readLine_5 (by decide +kernel) ?_
      refine lv_icmp_ge (tgt := 93) hC.1 hC.2.1 dX6_readLine_7 (by decide) (fun k7 => ?_) (fun k7 => ?_)
      · exact A4  y1_4 v_4 hg hI _ _ hP hS _ (lv_sub hl [0, 1] rfl)
      · exact absurd (nI_le (a := 6) (b := d4) (by omega) (by omega)) k7
    | succ n4 ih =>
      intro d4 y1_4 v_4 hd hg hI H locs hP hS ls hl
      have hg : fX6_readLine v = (Sum.elim (tX6_readLine_4 v) id (lpRs n4 d4 (bX6_readLine_4 v) (bX6_readLine_4 v d4 (y1_4, v_4)))) := hg
      refine lv_iload_n hC.1 hC.2.1 dX6_readLine_4 rfl (lv_at hl 2 rfl) ?_
      refine lv_bipush (v := 6) hC.1 hC.2.1 dX6_readLine_5 (by decide +kernel) ?_
      refine lv_icmp_ge (tgt := 93) hC.1 hC.2.1 dX6_readLine_7 (by decide) (fun k7 => ?_) (fun k7 => ?_)
      · exact absurd k7 (nI_ge (a := d4) (b := 6) (by omega) (by omega))
      · refine lv_aload_n hC.1 hC.2.1 dX6_readLine_10 rfl (lv_at hl 0 rfl) ?_
        refine runP (rV (B := fun U H => PW G (mdW G q v_4 hs) H) (As := []) (rest := []) hC mwX6_sign (c_X6_sign l G q v_4 hs hI.1) iwX6_sign wd_1090 ⟨rfl, rfl⟩ ⟨Nat.le_of_ble_eq_true rfl, Nat.le_of_ble_eq_true rfl⟩ (stb_h (fun H => PW G (mdW G q v_4 hs) H)) (hKN.go hAL hS) hP (va_recv (hKN.go hAL hS).k hP (ci := 6) (q0 := 0) rfl rfl) rfl hl.1 rfl (Nat.le_of_ble_eq_true rfl) dX6_readLine_11 ⟨Nat.zero_le _, Nat.zero_le _⟩) ?_
        refine lv_bipush (v := 48) hC.1 hC.2.1 dX6_readLine_14 (by decide +kernel) ?_
        refine lv_bipush (v := 57) hC.1 hC.2.1 dX6_readLine_16 (by decide +kernel) ?_
        refine runP (rS (B := fun U H => True) (As := [.int (fX6_sign v_4), .int 48, .int 57]) (rest := []) hC mwX6_in (c_X6_in l G (fX6_sign v_4) 48 57) wd_975 wd_974 ⟨rfl, rfl⟩ ⟨Nat.le_of_ble_eq_true rfl, Nat.le_of_ble_eq_true rfl⟩ (fun _ _ _ _ h => h) (hKN.go hAL hS) trivial rfl hl.1 rfl (Nat.le_of_ble_eq_true rfl) dX6_readLine_18 ⟨Nat.zero_le _, Nat.zero_le _⟩) ?_
        refine lv_if_eq (tgt := 34) hC.1 hC.2.1 dX6_readLine_21 (by decide) (fun k21 => ?_) (fun k21 => ?_)
        · refine lv_aload_n hC.1 hC.2.1 dX6_readLine_34 rfl (lv_at hl 0 rfl) ?_
          refine runP (rV (B := fun U H => PW G (mdW G q v_4 hs) H) (As := []) (rest := []) hC mwX6_sign (c_X6_sign l G q v_4 hs hI.1) iwX6_sign wd_1090 ⟨rfl, rfl⟩ ⟨Nat.le_of_ble_eq_true rfl, Nat.le_of_ble_eq_true rfl⟩ (stb_h (fun H => PW G (mdW G q v_4 hs) H)) (hKN.go hAL hS) hP (va_recv (hKN.go hAL hS).k hP (ci := 6) (q0 := 0) rfl rfl) rfl hl.1 rfl (Nat.le_of_ble_eq_true rfl) dX6_readLine_35 ⟨Nat.zero_le _, Nat.zero_le _⟩) ?_
          refine lv_bipush (v := 97) hC.1 hC.2.1 dX6_readLine_38 (by decide +kernel) ?_
          refine lv_bipush (v := 102) hC.1 hC.2.1 dX6_readLine_40 (by decide +kernel) ?_
          refine runP (rS (B := fun U H => True) (As := [.int (fX6_sign v_4), .int 97, .int 102]) (rest := []) hC mwX6_in (c_X6_in l G (fX6_sign v_4) 97 102) wd_975 wd_974 ⟨rfl, rfl⟩ ⟨Nat.le_of_ble_eq_true rfl, Nat.le_of_ble_eq_true rfl⟩ (fun _ _ _ _ h => h) (hKN.go hAL hS) trivial rfl hl.1 rfl (Nat.le_of_ble_eq_true rfl) dX6_readLine_42 ⟨Nat.zero_le _, Nat.zero_le _⟩) ?_
          refine lv_if_eq (tgt := 61) hC.1 hC.2.1 dX6_readLine_45 (by decide) (fun k45 => ?_) (fun k45 => ?_)
          · refine lv_iconst (v := (-1)) hC.1 hC.2.1 dX6_readLine_61 (by decide) ?_
            refine lv_istore_n (lv' := [(3, .int (-1)), (0, .ref (q 0)), (1, .int y1_4), (2, .int (nI d4))]) hC.1 hC.2.1 dX6_readLine_62 rfl hl (by decide) rfl (fun ls hl => ?_)
            refine lv_iload_n hC.1 hC.2.1 dX6_readLine_63 rfl (lv_at hl 0 rfl) ?_
            refine lv_iconst (v := (-1)) hC.1 hC.2.1 dX6_readLine_64 (by decide) ?_
            refine lv_icmp_ne (tgt := 70) hC.1 hC.2.1 dX6_readLine_65 (by decide) (fun k65 => ?_) (fun k65 => ?_)
            · exact absurd (by decide) k65
            · refine lv_iconst (v := 0) hC.1 hC.2.1 dX6_readLine_68 (by decide) ?_
              have e_14 : bX6_readLine_4 v d4 (y1_4, v_4) = Sum.inr (v_4, 0) := by delta bX6_readLine_4; exact Eq.trans (if_pos k21) (Eq.trans (if_pos k45) rfl)
              have hg : fX6_readLine v = (v_4, 0) := by have e2 := congrArg (fun z => (Sum.elim (tX6_readLine_4 v) id (lpRs n4 d4 (bX6_readLine_4 v) z))) e_14; exact hg.trans e2
              exact eE_z hC (by rw [hg]) rfl (by show PW G (mdW G q (fX6_readLine v).1 hs) H; rw [hg]; exact hP) hS dX6_readLine_69
          · refine lv_aload_n hC.1 hC.2.1 dX6_readLine_48 rfl (lv_at hl 0 rfl) ?_
            refine runP (rV (B := fun U H => PW G (mdW G q v_4 hs) H) (As := []) (rest := []) hC mwX6_sign (c_X6_sign l G q v_4 hs hI.1) iwX6_sign wd_1090 ⟨rfl, rfl⟩ ⟨Nat.le_of_ble_eq_true rfl, Nat.le_of_ble_eq_true rfl⟩ (stb_h (fun H => PW G (mdW G q v_4 hs) H)) (hKN.go hAL hS) hP (va_recv (hKN.go hAL hS).k hP (ci := 6) (q0 := 0) rfl rfl) rfl hl.1 rfl (Nat.le_of_ble_eq_true rfl) dX6_readLine_49 ⟨Nat.zero_le _, Nat.zero_le _⟩) ?_
            refine lv_bipush (v := 97) hC.1 hC.2.1 dX6_readLine_52 (by decide +kernel) ?_
            refine lv_isub hC.1 hC.2.1 dX6_readLine_54 ?_
            refine lv_bipush (v := 10) hC.1 hC.2.1 dX6_readLine_55 (by decide +kernel) ?_
            refine lv_iadd hC.1 hC.2.1 dX6_readLine_57 ?_
            refine lv_goto (tgt := 62) hC.1 hC.2.1 dX6_readLine_58 (by decide) ?_
            refine lv_istore_n (lv' := [(3, .int (((fX6_sign v_4) - 97) + 10)), (0, .ref (q 0)), (1, .int y1_4), (2, .int (nI d4))]) hC.1 hC.2.1 dX6_readLine_62 rfl hl (by decide) rfl (fun ls hl => ?_)
            refine lv_iload_n hC.1 hC.2.1 dX6_readLine_63 rfl (lv_at hl 0 rfl) ?_
            refine lv_iconst (v := (-1)) hC.1 hC.2.1 dX6_readLine_64 (by decide) ?_
            refine lv_icmp_ne (tgt := 70) hC.1 hC.2.1 dX6_readLine_65 (by decide) (fun k65 => ?_) (fun k65 => ?_)
            · refine lv_bipush (v := 16) hC.1 hC.2.1 dX6_readLine_70 (by decide +kernel) ?_
              refine lv_iload_n hC.1 hC.2.1 dX6_readLine_72 rfl (lv_at hl 2 rfl) ?_
              refine lv_imul hC.1 hC.2.1 dX6_readLine_73 ?_
              refine lv_iload_n hC.1 hC.2.1 dX6_readLine_74 rfl (lv_at hl 0 rfl) ?_
              refine lv_iadd hC.1 hC.2.1 dX6_readLine_75 ?_
              refine lv_istore_n (lv' := [(1, .int ((16 * y1_4) + (((fX6_sign v_4) - 97) + 10))), (3, .int (((fX6_sign v_4) - 97) + 10)), (0, .ref (q 0)), (2, .int (nI d4))]) hC.1 hC.2.1 dX6_readLine_76 rfl hl (by decide) rfl (fun ls hl => ?_)
              refine lv_aload_n hC.1 hC.2.1 dX6_readLine_77 rfl (lv_at hl 2 rfl) ?_
              refine lv_dup hC.1 hC.2.1 dX6_readLine_78 rfl ?_
              refine gf (v := .int (v_4 8 7)) hC fwX6 (hKN.go hAL hS) hP 0 rfl rfl 12 (by decide) rfl wd_899 rfl dX6_readLine_79 ?_
              refine lv_iconst (v := 1) hC.1 hC.2.1 dX6_readLine_82 (by decide) ?_
              refine lv_iadd hC.1 hC.2.1 dX6_readLine_83 ?_
              refine lv_topi (fun w_15 ew_15 => ?_)
              refine pf (v := .int w_15) (tv := .int) hC fwX6 (hKN.go hAL hS) hP (mdD_D hq v_4 hs) hS 0 rfl rfl 12 (by decide) rfl wd_899 rfl rfl rfl (Nat.le_of_ble_eq_true rfl) dX6_readLine_84 (fun H locs hq_16 hS => ?_)
              have hP : PW G (mdW G q (mkM (v_4 0) (v_4 1) (v_4 2) (v_4 3) (v_4 4) (v_4 5) (v_4 6) (v_4 7) (v_4 8 0) (v_4 8 1) (v_4 8 2) (v_4 8 3) (v_4 8 4) (v_4 8 5) (v_4 8 6) w_15 (v_4 8 8)) hs) H := hq_16
              have hI : PB (mkM (v_4 0) (v_4 1) (v_4 2) (v_4 3) (v_4 4) (v_4 5) (v_4 6) (v_4 7) (v_4 8 0) (v_4 8 1) (v_4 8 2) (v_4 8 3) (v_4 8 4) (v_4 8 5) (v_4 8 6) w_15 (v_4 8 8)) := (by first | exact ⟨BI_inc ew_15 hI.1 rfl (in_ne0 (by decide) k21) rfl rfl, hI.2⟩ | exact ⟨BI_inc ew_15 hI.1 rfl (in_ne0 (by decide) k45) rfl rfl, hI.2⟩)
              refine lv_iinc (v := nI (d4 + 1)) (lv' := [(2, .int (nI (d4 + 1))), (1, .int ((16 * y1_4) + (((fX6_sign v_4) - 97) + 10))), (3, .int (((fX6_sign v_4) - 97) + 10)), (0, .ref (q 0))]) hC.1 hC.2.1 dX6_readLine_87 hl (k := 3) rfl (nI_1 _) (by decide) rfl (fun ls hl => ?_)
              refine lv_goto (tgt := 4) hC.1 hC.2.1 dX6_readLine_90 (by decide) ?_
              have e_17 : bX6_readLine_4 v d4 (y1_4, v_4) = Sum.inl ((16 * y1_4) + (((fX6_sign v_4) - 97) + 10), mkM (v_4 0) (v_4 1) (v_4 2) (v_4 3) (v_4 4) (v_4 5) (v_4 6) (v_4 7) (v_4 8 0) (v_4 8 1) (v_4 8 2) (v_4 8 3) (v_4 8 4) (v_4 8 5) (v_4 8 6) w_15 (v_4 8 8)) := by have q_ := ew_15.symm; subst q_; delta bX6_readLine_4; exact Eq.trans (if_pos k21) (Eq.trans (if_neg k45) (Eq.trans (if_neg k65) rfl))
              have hg : fX6_readLine v = (Sum.elim (tX6_readLine_4 v) id (lpR n4 (d4 + 1) (bX6_readLine_4 v) ((16 * y1_4) + (((fX6_sign v_4) - 97) + 10), mkM (v_4 0) (v_4 1) (v_4 2) (v_4 3) (v_4 4) (v_4 5) (v_4 6) (v_4 7) (v_4 8 0) (v_4 8 1) (v_4 8 2) (v_4 8 3) (v_4 8 4) (v_4 8 5) (v_4 8 6) w_15 (v_4 8 8)))) := by have e2 := congrArg (fun z => (Sum.elim (tX6_readLine_4 v) id (lpRs n4 d4 (bX6_readLine_4 v) z))) e_17; exact hg.trans e2
              exact ih (d4 + 1) ((16 * y1_4) + (((fX6_sign v_4) - 97) + 10)) (mkM (v_4 0) (v_4 1) (v_4 2) (v_4 3) (v_4 4) (v_4 5) (v_4 6) (v_4 7) (v_4 8 0) (v_4 8 1) (v_4 8 2) (v_4 8 3) (v_4 8 4) (v_4 8 5) (v_4 8 6) w_15 (v_4 8 8)) (by omega) hg hI _ _ hP hS _ (lv_sub hl [3, 1, 0] rfl)
            · refine lv_iconst (v := 0) hC.1 hC.2.1 dX6_readLine_68 (by decide) ?_
              have e_18 : bX6_readLine_4 v d4 (y1_4, v_4) = Sum.inr (v_4, 0) := by delta bX6_readLine_4; exact Eq.trans (if_pos k21) (Eq.trans (if_neg k45) (Eq.trans (if_pos k65) rfl))
              have hg : fX6_readLine v = (v_4, 0) := by have e2 := congrArg (fun z => (Sum.elim (tX6_readLine_4 v) id (lpRs n4 d4 (bX6_readLine_4 v) z))) e_18; exact hg.trans e2
              exact eE_z hC (by rw [hg]) rfl (by show PW G (mdW G q (fX6_readLine v).1 hs) H; rw [hg]; exact hP) hS dX6_readLine_69
        · refine lv_aload_n hC.1 hC.2.1 dX6_readLine_24 rfl (lv_at hl 0 rfl) ?_
          refine runP (rV (B := fun U H => PW G (mdW G q v_4 hs) H) (As := []) (rest := []) hC mwX6_sign (c_X6_sign l G q v_4 hs hI.1) iwX6_sign wd_1090 ⟨rfl, rfl⟩ ⟨Nat.le_of_ble_eq_true rfl, Nat.le_of_ble_eq_true rfl⟩ (stb_h (fun H => PW G (mdW G q v_4 hs) H)) (hKN.go hAL hS) hP (va_recv (hKN.go hAL hS).k hP (ci := 6) (q0 := 0) rfl rfl) rfl hl.1 rfl (Nat.le_of_ble_eq_true rfl) dX6_readLine_25 ⟨Nat.zero_le _, Nat.zero_le _⟩) ?_
          refine lv_bipush (v := 48) hC.1 hC.2.1 dX6_readLine_28 (by decide +kernel) ?_
          refine lv_isub hC.1 hC.2.1 dX6_readLine_30 ?_
          refine lv_goto (tgt := 62) hC.1 hC.2.1 dX6_readLine_31 (by decide) ?_
          refine lv_istore_n (lv' := [(3, .int ((fX6_sign v_4) - 48)), (0, .ref (q 0)), (1, .int y1_4), (2, .int (nI d4))]) hC.1 hC.2.1 dX6_readLine_62 rfl hl (by decide) rfl (fun ls hl => ?_)
          refine lv_iload_n hC.1 hC.2.1 dX6_readLine_63 rfl (lv_at hl 0 rfl) ?_
          refine lv_iconst (v := (-1)) hC.1 hC.2.1 dX6_readLine_64 (by decide) ?_
          refine lv_icmp_ne (tgt := 70) hC.1 hC.2.1 dX6_readLine_65 (by decide) (fun k65 => ?_) (fun k65 => ?_)
          · refine lv_bipush (v := 16) hC.1 hC.2.1 dX6_readLine_70 (by decide +kernel) ?_
            refine lv_iload_n hC.1 hC.2.1 dX6_readLine_72 rfl (lv_at hl 2 rfl) ?_
            refine lv_imul hC.1 hC.2.1 dX6_readLine_73 ?_
            refine lv_iload_n hC.1 hC.2.1 dX6_readLine_74 rfl (lv_at hl 0 rfl) ?_
            refine lv_iadd hC.1 hC.2.1 dX6_readLine_75 ?_
            refine lv_istore_n (lv' := [(1, .int ((16 * y1_4) + ((fX6_sign v_4) - 48))), (3, .int ((fX6_sign v_4) - 48)), (0, .ref (q 0)), (2, .int (nI d4))]) hC.1 hC.2.1 dX6_readLine_76 rfl hl (by decide) rfl (fun ls hl => ?_)
            refine lv_aload_n hC.1 hC.2.1 dX6_readLine_77 rfl (lv_at hl 2 rfl) ?_
            refine lv_dup hC.1 hC.2.1 dX6_readLine_78 rfl ?_
            refine gf (v := .int (v_4 8 7)) hC fwX6 (hKN.go hAL hS) hP 0 rfl rfl 12 (by decide) rfl wd_899 rfl dX6_readLine_79 ?_
            refine lv_iconst (v := 1) hC.1 hC.2.1 dX6_readLine_82 (by decide) ?_
            refine lv_iadd hC.1 hC.2.1 dX6_readLine_83 ?_
            refine lv_topi (fun w_19 ew_19 => ?_)
            refine pf (v := .int w_19) (tv := .int) hC fwX6 (hKN.go hAL hS) hP (mdD_D hq v_4 hs) hS 0 rfl rfl 12 (by decide) rfl wd_899 rfl rfl rfl (Nat.le_of_ble_eq_true rfl) dX6_readLine_84 (fun H locs hq_20 hS => ?_)
            have hP : PW G (mdW G q (mkM (v_4 0) (v_4 1) (v_4 2) (v_4 3) (v_4 4) (v_4 5) (v_4 6) (v_4 7) (v_4 8 0) (v_4 8 1) (v_4 8 2) (v_4 8 3) (v_4 8 4) (v_4 8 5) (v_4 8 6) w_19 (v_4 8 8)) hs) H := hq_20
            have hI : PB (mkM (v_4 0) (v_4 1) (v_4 2) (v_4 3) (v_4 4) (v_4 5) (v_4 6) (v_4 7) (v_4 8 0) (v_4 8 1) (v_4 8 2) (v_4 8 3) (v_4 8 4) (v_4 8 5) (v_4 8 6) w_19 (v_4 8 8)) := (by first | exact ⟨BI_inc ew_19 hI.1 rfl (in_ne0 (by decide) k21) rfl rfl, hI.2⟩ | exact ⟨BI_inc ew_19 hI.1 rfl (in_ne0 (by decide) k45) rfl rfl, hI.2⟩)
            refine lv_iinc (v := nI (d4 + 1)) (lv' := [(2, .int (nI (d4 + 1))), (1, .int ((16 * y1_4) + ((fX6_sign v_4) - 48))), (3, .int ((fX6_sign v_4) - 48)), (0, .ref (q 0))]) hC.1 hC.2.1 dX6_readLine_87 hl (k := 3) rfl (nI_1 _) (by decide) rfl (fun ls hl => ?_)
            refine lv_goto (tgt := 4) hC.1 hC.2.1 dX6_readLine_90 (by decide) ?_
            have e_21 : bX6_readLine_4 v d4 (y1_4, v_4) = Sum.inl ((16 * y1_4) + ((fX6_sign v_4) - 48), mkM (v_4 0) (v_4 1) (v_4 2) (v_4 3) (v_4 4) (v_4 5) (v_4 6) (v_4 7) (v_4 8 0) (v_4 8 1) (v_4 8 2) (v_4 8 3) (v_4 8 4) (v_4 8 5) (v_4 8 6) w_19 (v_4 8 8)) := by have q_ := ew_19.symm; subst q_; delta bX6_readLine_4; exact Eq.trans (if_neg k21) (Eq.trans (if_neg k65) rfl)
            have hg : fX6_readLine v = (Sum.elim (tX6_readLine_4 v) id (lpR n4 (d4 + 1) (bX6_readLine_4 v) ((16 * y1_4) + ((fX6_sign v_4) - 48), mkM (v_4 0) (v_4 1) (v_4 2) (v_4 3) (v_4 4) (v_4 5) (v_4 6) (v_4 7) (v_4 8 0) (v_4 8 1) (v_4 8 2) (v_4 8 3) (v_4 8 4) (v_4 8 5) (v_4 8 6) w_19 (v_4 8 8)))) := by have e2 := congrArg (fun z => (Sum.elim (tX6_readLine_4 v) id (lpRs n4 d4 (bX6_readLine_4 v) z))) e_21; exact hg.trans e2
            exact ih (d4 + 1) ((16 * y1_4) + ((fX6_sign v_4) - 48)) (mkM (v_4 0) (v_4 1) (v_4 2) (v_4 3) (v_4 4) (v_4 5) (v_4 6) (v_4 7) (v_4 8 0) (v_4 8 1) (v_4 8 2) (v_4 8 3) (v_4 8 4) (v_4 8 5) (v_4 8 6) w_19 (v_4 8 8)) (by omega) hg hI _ _ hP hS _ (lv_sub hl [3, 1, 0] rfl)
          · refine lv_iconst (v := 0) hC.1 hC.2.1 dX6_readLine_68 (by decide) ?_
            have e_22 : bX6_readLine_4 v d4 (y1_4, v_4) = Sum.inr (v_4, 0) := by delta bX6_readLine_4; exact Eq.trans (if_neg k21) (Eq.trans (if_pos k65) rfl)
            have hg : fX6_readLine v = (v_4, 0) := by have e2 := congrArg (fun z => (Sum.elim (tX6_readLine_4 v) id (lpRs n4 d4 (bX6_readLine_4 v) z))) e_22; exact hg.trans e2
            exact eE_z hC (by rw [hg]) rfl (by show PW G (mdW G q (fX6_readLine v).1 hs) H; rw [hg]; exact hP) hS dX6_readLine_69
  have e_23 : fX6_readLine v = Sum.elim (tX6_readLine_4 v) id (lpR 6 0 (bX6_readLine_4 v) (0, v)) := by delta fX6_readLine; exact rfl
  have hg : fX6_readLine v = (Sum.elim (tX6_readLine_4 v) id (lpR 6 0 (bX6_readLine_4 v) (0, v))) := by have e2 := congrArg (fun z => z) e_23; exact hg.trans e2
  exact L4  6 0 0 v (by omega) hg hI _ _ hP hS _ (lv_sub hl [2, 1, 0] rfl)
