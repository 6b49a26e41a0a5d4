/-! the whole text: firstError, print *)-/
section PE
variable {c : Nat → Int32} {l : Nat}
/-- the class's reader behind j characters, P parts done, as K, W, T have them -/
def CP (c : Nat → Int32) (r00 : Nat → Int32) (K W T : Nat → Int32) : Nat → Nat → (Nat → Int32) → Prop
  | 0, P, r => P = 0 ∧ r = r00
  | j + 1, P, r => ∃ r1, fX1_take r1 (c j) = (r, 1) ∧ ((¬ c j = 59 ∧ CP c r00 K W T j P r1) ∨ (c j = 59 ∧ ∃ P', P = P' + 1 ∧ CP c r00 K W T j P' r1 ∧ PartOk r1 (K P') (W P') (T P')))
theorem CP_congr {r00 : Nat → Int32} {K W T K' W' T' : Nat → Int32} : ∀ (j P : Nat) (r : Nat → Int32), (∀ k, k < P → K' k = K k ∧ W' k = W k ∧ T' k = T k) → CP c r00 K W T j P r → CP c r00 K' W' T' j P r := by
  intro j
  induction j with
  | zero => exact fun P r _ h => h
  | succ j ih =>
    rintro P r hk ⟨r1, h1, h2⟩
    refine ⟨r1, h1, ?_⟩
    rcases h2 with ⟨h2, h3⟩ | ⟨h2, P', h3, h4, h5⟩
    · exact Or.inl ⟨h2, ih P r1 hk h3⟩
    · subst h3
      obtain ⟨a1, a2, a3⟩ := hk P' (by omega)
      exact Or.inr ⟨h2, P', rfl, ih P' r1 (fun k q => hk k (by omega)) h4, by rw [a1, a2, a3]; exact h5⟩
theorem CP_le {r00 : Nat → Int32} {K W T : Nat → Int32} : ∀ (j P : Nat) (r : Nat → Int32), CP c r00 K W T j P r → P ≤ j := by
  intro j
  induction j with
  | zero => exact fun P r h => by rw [h.1]; exact Nat.le_refl 0
  | succ j ih =>
    rintro P r ⟨r1, h1, h2⟩
    rcases h2 with ⟨h2, h3⟩ | ⟨h2, P', h3, h4, h5⟩
    · have := ih P r1 h3
      omega
    · have := ih P' r1 h4
      omega
theorem CP_Tk {r00 r0 : Nat → Int32} {K W T : Nat → Int32} {b P : Nat} (h : CP c r00 K W T b P r0) : ∀ (n : Nat) (r : Nat → Int32), Tk c b r0 n r → CP c r00 K W T (b + n) P r := by
  intro n
  induction n with
  | zero =>
    intro r q
    have q : r = r0 := q
    rw [q]
    exact h
  | succ n ih =>
    rintro r ⟨r1, h1, h2, h3⟩
    exact ⟨r1, h3, Or.inl ⟨h2, ih r1 h1⟩⟩
theorem CP_W {r00 : Nat → Int32} {K W T : Nat → Int32} (h0 : (r00 2).toNatClampNeg < 8) : ∀ (j P : Nat) (r : Nat → Int32), CP c r00 K W T j P r → (r 2).toNatClampNeg < 8 := by
  intro j
  induction j with
  | zero => exact fun P r h => by rw [h.2]; exact h0
  | succ j ih =>
    rintro P r ⟨r1, h1, h2⟩
    have hr : (r1 2).toNatClampNeg < 8 := by
      rcases h2 with ⟨h2, h3⟩ | ⟨h2, P', h3, h4, h5⟩
      · exact ih P r1 h3
      · exact ih P' r1 h4
    have := W_take (c j) hr
    rw [h1] at this
    exact this
/-- the loop of arePrints: where it stands -/
def LI (c : Nat → Int32) (l : Nat) (r00 : Nat → Int32) (j : Nat) (y : Int32) (w : SV) : Prop :=
  At c l w j ∧ ∃ P r, (y = 0 ∧ ∃ K W T, CP c r00 K W T j P r ∧ Stk c l r j) ∨ (y = 1 ∧ CP c r00 (w 5) (w 6) (w 7) j P r ∧ Dn c l r j ∧ PartOk r (w 5 P) (w 6 P) (w 7 P) ∧ w 8 8 = nI (P + 1))
theorem LI_of {r00 : Nat → Int32} {v : SV} {b P : Nat} {m w k p x : Int32} {u : SV × Int32} (hl : l ≤ 60) (hb : b ≤ l) (hP : v 8 8 = nI P) (hC : CP c r00 (v 5) (v 6) (v 7) b P (mkR 0 m w k 0 0 0 p 0 x)) (h : Rd c l b (mkR 0 m w k 0 0 0 p 0 x) v u) : ∃ j, b ≤ j ∧ LI c l r00 j u.2 u.1 := by
  have hle := CP_le _ _ _ hC
  rcases h.2 with ⟨h1, n, r, h2, h3, h4⟩ | ⟨h1, n, r, h2, h3, h4, K, W, T, h5, h6, h7, h8, h9⟩
  · exact ⟨b + n, by omega, h3, P, r, Or.inl ⟨h1, _, _, _, CP_Tk hC n r h2, h4⟩⟩
  · rw [hP, nI_clamp (by omega)] at h6 h7 h8
    refine ⟨b + n, by omega, h3, P, r, Or.inr ⟨h1, CP_congr _ _ _ (fun k hk => ?_) (CP_Tk hC n r h2), h4, ?_, by rw [h9, hP, nI_1]⟩⟩
    · rw [h6, h7, h8]
      exact ⟨pk_un (by omega), pk_un (by omega), pk_un (by omega)⟩
    · rw [h6, h7, h8, pk_us, pk_us, pk_us]
      exact h5
theorem between {r : Nat → Int32} (h : fX1_isComplete r = 1) : fX1_take r 59 = (mkR 0 (r 1) (r 2) (r 3) 0 0 0 (r 7) 0 (r 9), 1) := by
  unfold fX1_take fX1_takeBetween
  rw [if_pos rfl, h, if_neg one_ne]
  rfl
theorem ap_loop {v0 : SV} {r00 : Nat → Int32} (hl : l ≤ 60) (hc : okC c l) : ∀ (F j : Nat) (y : Int32) (w : SV), LI c l r00 j y w → l < j + F → ∃ y' w' j', lpB F (bX6_arePrints_15 v0) (y, w) = (y', w') ∧ LI c l r00 j' y' w' ∧ (y' = 1 → j' < l → ¬ c j' = 59) := by
  intro F
  induction F with
  | zero =>
    intro j y w h hF
    have := h.1.2.2.2
    omega
  | succ F ih =>
    rintro j y w ⟨hA, P, r, h⟩ hF
    show ∃ y' w' j', (bif (bX6_arePrints_15 v0 (y, w)).1 then lpB F (bX6_arePrints_15 v0) (bX6_arePrints_15 v0 (y, w)).2 else (bX6_arePrints_15 v0 (y, w)).2) = (y', w') ∧ _
    rcases h with ⟨h0, h⟩ | ⟨h0, h1, h2, h3, h4⟩
    · have e : bX6_arePrints_15 v0 (y, w) = (false, (y, w)) := by
        unfold bX6_arePrints_15
        exact if_pos h0
      rw [e]
      exact ⟨y, w, j, rfl, ⟨hA, P, r, Or.inl ⟨h0, h⟩⟩, fun q => absurd (h0.symm.trans q) (by decide)⟩
    · obtain ⟨t, et⟩ : ∃ t, t = fX6_takes w 59 := ⟨_, rfl⟩
      obtain ⟨f, g⟩ := takes_at hl hA (a := 59) (by decide) et
      rcases g with ⟨g1, g2, g3, g4⟩ | ⟨g1, g2, g3⟩
      · have e : bX6_arePrints_15 v0 (y, w) = (true, ((fX6_readPart t.1).2, (fX6_readPart t.1).1)) := by
          unfold bX6_arePrints_15
          dsimp only
          rw [if_neg (by rw [h0]; decide), ← et, g3, if_neg one_ne]
        rw [e]
        have hcj : c j = 59 := by
          have : cx c l j = c j := if_pos g2
          rw [← this, g1]
        have hC : CP c r00 (t.1 5) (t.1 6) (t.1 7) (j + 1) (P + 1) (mkR 0 (r 1) (r 2) (r 3) 0 0 0 (r 7) 0 (r 9)) := by
          rw [f.1 5 (by omega), f.1 6 (by omega), f.1 7 (by omega)]
          exact ⟨r, by rw [hcj]; exact between h2.1, Or.inr ⟨hcj, P, rfl, h1, h3⟩⟩
        obtain ⟨j', j1, j2⟩ := LI_of hl (by omega) ((f.2 8 (by omega) (by omega)).trans h4) hC (part_sync hl hc g4 (u := fX6_readPart t.1) rfl)
        exact ih j' _ _ j2 (by omega)
      · have e : bX6_arePrints_15 v0 (y, w) = (false, (y, t.1)) := by
          unfold bX6_arePrints_15
          dsimp only
          rw [if_neg (by rw [h0]; decide), ← et, g2, if_pos rfl]
        rw [e]
        refine ⟨y, t.1, j, rfl, ⟨g3, P, r, Or.inr ⟨h0, ?_, h2, ?_, (f.2 8 (by omega) (by omega)).trans h4⟩⟩, fun _ q z => g1 (by rw [show cx c l j = c j from if_pos q]; exact z)⟩
        · rw [f.1 5 (by omega), f.1 6 (by omega), f.1 7 (by omega)]
          exact h1
        · rw [f.1 5 (by omega), f.1 6 (by omega), f.1 7 (by omega)]
          exact h3
theorem ap_sync {v : SV} {m w k p x : Int32} (hl : l ≤ 60) (hc : okC c l) (h4 : ∀ j, j < l → v 4 j = c j) (h6 : v 8 6 = nI l) {u : SV × Int32} (hu : u = fX6_arePrints v) :
    ∃ j P r K W T, CP c (mkR 0 m w k 0 0 0 p 0 x) K W T j P r ∧ u.1 8 7 = nI j ∧ j ≤ l ∧ ((u.2 = 1 ∧ j = l ∧ fX1_isComplete r = 1 ∧ K = u.1 5 ∧ W = u.1 6 ∧ T = u.1 7 ∧ PartOk r (K P) (W P) (T P) ∧ u.1 8 8 = nI (P + 1)) ∨ (u.2 = 0 ∧ Stk c l r j)) := by
  have hmR : mR = 60 := rfl
  obtain ⟨v0, ev⟩ : ∃ z, z = mkM (v 0) (v 1) (v 2) (v 3) (v 4) (v 5) (v 6) (v 7) (v 8 0) (v 8 1) (v 8 2) (v 8 3) (v 8 4) (v 8 5) (v 8 6) 0 0 := ⟨_, rfl⟩
  have A0 : At c l v0 0 := by
    rw [ev]
    exact ⟨h4, h6, nI_0.symm, Nat.zero_le _⟩
  have C0 : CP c (mkR 0 m w k 0 0 0 p 0 x) (v0 5) (v0 6) (v0 7) 0 0 (mkR 0 m w k 0 0 0 p 0 x) := ⟨rfl, rfl⟩
  obtain ⟨j0, -, L0⟩ := LI_of hl (Nat.zero_le _) (by rw [ev]; exact nI_0.symm) C0 (part_sync hl hc A0 (u := fX6_readPart v0) rfl)
  obtain ⟨y, z, j, e, ⟨hA, P, r, h⟩, hn⟩ := ap_loop (v0 := v) hl hc (mR + 1) j0 _ _ L0 (by omega)
  have e2 : u = tX6_arePrints_15 v (y, z) := by
    rw [hu, ← e, ev]
    rfl
  rcases h with ⟨h0, K, W, T, h1, h2⟩ | ⟨h0, h1, h2, h3, h4'⟩
  · have e3 : u = (z, 0) := by
      rw [e2]
      unfold tX6_arePrints_15
      exact if_pos h0
    rw [e3]
    exact ⟨j, P, r, K, W, T, h1, hA.2.2.1, hA.2.2.2, Or.inr ⟨rfl, h2⟩⟩
  · have e3 : u = if z 8 7 = z 8 6 then (z, 1) else (z, 0) := by
      rw [e2]
      unfold tX6_arePrints_15
      exact if_neg (show ¬ y = 0 by rw [h0]; decide)
    rw [hA.2.2.1, hA.2.1] at e3
    have := hA.2.2.2
    by_cases q : j = l
    · rw [if_pos (by rw [q])] at e3
      rw [e3]
      exact ⟨j, P, r, z 5, z 6, z 7, h1, hA.2.2.1, hA.2.2.2, Or.inl ⟨rfl, q, h2.1, rfl, rfl, rfl, h3, h4'⟩⟩
    · rw [if_neg (fun y => q ((nI_eq (by omega) (by omega)).mp y))] at e3
      rw [e3]
      exact ⟨j, P, r, z 5, z 6, z 7, h1, hA.2.2.1, hA.2.2.2, Or.inr ⟨rfl, Or.inl ⟨by omega, h2.2 (by omega) (hn h0 (by omega))⟩⟩⟩
/-- the class reads until an error -/
theorem rue_sync {r9 f : Nat → Int32} {K W T : Nat → Int32} {j P : Nat} {r : Nat → Int32} (hl : l ≤ 60) (hf : ∀ i, i < l → f i = c i) (hC : CP c (mkR 0 (r9 1) (r9 2) (r9 3) 0 0 0 (r9 7) 0 (r9 9)) K W T j P r) (hj : j ≤ l) :
    (j = l → fX1_readUntilError r9 (mkB f (nI l)) = (r, nI l)) ∧ (j < l → (fX1_take r (c j)).2 = 0 → fX1_readUntilError r9 (mkB f (nI l)) = ((fX1_take r (c j)).1, nI j)) := by
  have ec : ∀ i, i < l → fX0_codeAt (mkB f (nI l)) (nI i) = c i := fun i hi => (atN f (by omega) (by omega)).trans (hf i hi)
  have key : ∀ (j P : Nat) (r : Nat → Int32), j ≤ l → CP c (mkR 0 (r9 1) (r9 2) (r9 3) 0 0 0 (r9 7) 0 (r9 9)) K W T j P r → lpR l 0 (bX1_readUntilError_6 r9 (mkB f (nI l))) (mkR 0 (r9 1) (r9 2) (r9 3) 0 0 0 (r9 7) 0 (r9 9)) = lpR (l - j) j (bX1_readUntilError_6 r9 (mkB f (nI l))) r := by
    intro j
    induction j with
    | zero =>
      rintro P r _ ⟨-, h⟩
      rw [h]
      rfl
    | succ j ih =>
      rintro P r hj ⟨r1, h1, h2⟩
      have h3 : ∃ P', CP c (mkR 0 (r9 1) (r9 2) (r9 3) 0 0 0 (r9 7) 0 (r9 9)) K W T j P' r1 := by
        rcases h2 with ⟨h2, h3⟩ | ⟨h2, P', h3, h4, h5⟩
        · exact ⟨P, h3⟩
        · exact ⟨P', h4⟩
      obtain ⟨P', h3⟩ := h3
      rw [ih P' r1 (by omega) h3, show l - j = (l - (j + 1)) + 1 by omega]
      refine lpR_l ?_
      unfold bX1_readUntilError_6
      dsimp only
      rw [ec j (by omega), h1, if_neg one_ne]
  have e0 : fX1_readUntilError r9 (mkB f (nI l)) = Sum.elim (tX1_readUntilError_6 r9 (mkB f (nI l))) id (lpR l 0 (bX1_readUntilError_6 r9 (mkB f (nI l))) (mkR 0 (r9 1) (r9 2) (r9 3) 0 0 0 (r9 7) 0 (r9 9))) := by
    unfold fX1_readUntilError
    show Sum.elim _ id (lpR ((nI l).toNatClampNeg) 0 _ _) = _
    rw [nI_clamp (by omega)]
    rfl
  rw [e0, key j P r hj hC]
  refine ⟨fun q => ?_, fun q h => ?_⟩
  · subst q
    rw [Nat.sub_self]
    rfl
  · rw [show l - j = (l - j - 1) + 1 by omega, lpR_r (r := ((fX1_take r (c j)).1, nI j)) ?_]
    · rfl
    · unfold bX1_readUntilError_6
      dsimp only
      rw [ec j q, h, if_pos rfl]
end PE
theorem RelH_rd {n : Nat} {x : HV} {v : SV} (R : RelH n x v) {r : Nat → Int32} (hr : (r 2).toNatClampNeg < 8) : RelH n (mkH (x 0) (x 1) (x 2) (x 3) (x 4) (x 5) (x 6) (x 7) (x 8) (x 9 0) r (x 9 2 0) (x 9 2 1) (x 9 2 2)) v := by
  obtain ⟨q1, q2, ⟨k, k1, k2, k3, k4⟩, q5, q6⟩ := R
  exact ⟨q1, q2, ⟨k, k1, k2, k3, fun j hj => al6 (P := fun j => j < k → R1 n (mkH (x 0) (x 1) (x 2) (x 3) (x 4) (x 5) (x 6) (x 7) (x 8) (x 9 0) r (x 9 2 0) (x 9 2 1) (x 9 2 2) (3 + j)) (fun a => v 1 (124 * j + a))) (k4 0) (k4 1) (k4 2) (k4 3) (k4 4) (k4 5) j (by omega) hj⟩, q5, hr⟩
theorem RelH_X {n : Nat} {x : HV} {v u : SV} (R : RelH n x v) (f : FRX v u) : RelH n x u := R.v (f.1 0 (by omega)) (f.1 1 (by omega)) (f.1 2 (by omega)) (f.1 4 (by omega)) (f.2 0 (by omega)) (f.2 1 (by omega)) (f.2 6 (by omega))
theorem le_60 {x : Int32} {l : Nat} (h : x = nI l) (hl : l ≤ 60) : le_n x 60 := by
  rw [h]
  exact ⟨nI_pos (by omega), by rw [nI_clamp (by omega)]; exact hl⟩
theorem op_firstError {n : Nat} {x : HV} {v : SV} (R : RelH n x v) : OKV (n + 1) (fX5_firstError x) (fX6_firstError v) := by
  obtain ⟨l, l1, l2, l3, l4⟩ := R.2.2.2.1
  have hw := R.2.2.2.2
  obtain ⟨u, eu⟩ : ∃ u, u = fX6_arePrints (thr0 v) := ⟨_, rfl⟩
  obtain ⟨j, P, r, K, W, T, h1, h2, h3, h4⟩ := ap_sync (c := v 4) (l := l) (v := thr0 v) (m := x 9 1 1) (w := x 9 1 2) (k := x 9 1 3) (p := x 9 1 7) (x := x 9 1 9) l1 (fun i hi => (l4 i hi).2) (fun _ _ => rfl) l3 eu
  obtain ⟨s1, s2⟩ := rue_sync (r9 := x 9 1) (f := x 9 0) l1 (fun i hi => (l4 i hi).1) h1 h3
  have f := (ap_spec (thr0 v) (le_60 l3 l1)).1
  rw [← eu] at f
  have e5 : fX5_firstError x = (mkH (x 0) (x 1) (x 2) (x 3) (x 4) (x 5) (x 6) (x 7) (x 8) (x 9 0) (fX1_readUntilError (x 9 1) (mkB (x 9 0) (x 9 2 2))).1 (x 9 2 0) (x 9 2 1) (x 9 2 2), (fX1_readUntilError (x 9 1) (mkB (x 9 0) (x 9 2 2))).2) := rfl
  have e6 : fX6_firstError v = if u.2 = 0 then (u.1, u.1 8 7) else (u.1, u.1 8 6) := by
    rw [eu]
    unfold fX6_firstError thr0
    dsimp only
  have hr : (r 2).toNatClampNeg < 8 := CP_W (r00 := mkR 0 (x 9 1 1) (x 9 1 2) (x 9 1 3) 0 0 0 (x 9 1 7) 0 (x 9 1 9)) hw j P r h1
  have R2 := RelH_X (RelH_thr (R.mono (Nat.le_succ n))) f
  rw [e5, e6, l2]
  rcases h4 with ⟨h4, h5, -⟩ | ⟨h4, h5⟩
  · rw [s1 h5, h4, if_neg one_ne]
    rw [← l2]
    exact ⟨RelH_rd R2 hr, ((f.2 6 (by omega)).trans l3).symm ▸ l2⟩
  · rw [h4, if_pos rfl]
    rcases h5 with ⟨h5, h6⟩ | ⟨h5, h6⟩
    · rw [s2 h5 h6]
      rw [← l2]
      exact ⟨RelH_rd R2 (W_take _ hr), h2.symm⟩
    · rw [s1 h5]
      rw [← l2]
      exact ⟨RelH_rd R2 hr, by show x 9 2 2 = u.1 8 7; rw [l2, h2, h5]⟩
