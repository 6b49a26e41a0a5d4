/-! would answers 1 -/
theorem Gd_cp {v w : SV} {B C : Nat} (G : Gd B (rw v)) (h0 : ∀ d, d < 24 → w 0 d = v 0 d) (hI : Lgs w) (h12 : w 4 12 = v 4 12) (h15 : w 4 15 = v 4 15)
    (hk : ∀ j, j < 12 → rw w (90 + 3 * j) = nI (aN (rw w) (90 + 3 * j)) ∧ aN (rw w) (90 + 3 * j) ≤ 24) (hc : ∀ d, d < 24 → rw w (26 + d) = nI (aN (rw w) (26 + d)) ∧ rw w (50 + d) = nI (aN (rw w) (50 + d)) ∧ aN (rw w) (50 + d) ≤ aN (rw w) (26 + d) ∧ aN (rw w) (26 + d) ≤ C) : Gd C (rw w) := by
  have e86 : rw w 86 = rw v 86 := h12
  have e87 : rw w 87 = rw v 87 := h15
  refine ⟨hI, fun d hd => ?_, ?_, ?_, hk, hc⟩
  · have e : rw w d = rw v d := (rw_h hd).trans ((h0 d hd).trans (rw_h hd).symm)
    rw [e, aN_e e]
    exact G.2.1 d hd
  · rw [e86, aN_e e86]; exact G.2.2.1
  · rw [e87, aN_e e87]; exact G.2.2.2.1
theorem zero_a {r : Nat → Int32} {k : Nat} (h : r k = 0) : r k = nI (aN r k) ∧ aN r k = 0 := by
  have e : aN r k = 0 := by
    unfold aN
    rw [h]
    rfl
  exact ⟨by rw [e, h, nI_0], e⟩
/-- the first trial's world -/
def wd0 (v v2 : SV) : SV := mkL (fL_copy 24 (v 0) 24 (v2 0)) (v2 1) (v2 2) (v2 3) (fL_copy 21 (v 4) 21 (v2 4))
theorem wd0_h (v v2 : SV) {d : Nat} (hd : d < 24) : wd0 v v2 0 d = v 0 d := copy_v 24 24 (v 0) (v2 0) (by omega) d hd
theorem wd0_n (v v2 : SV) {j : Nat} (hj : j < 21) : wd0 v v2 4 j = v 4 j := copy_v 21 21 (v 4) (v2 4) (by omega) j hj
theorem Gd_w0 {v v2 : SV} {B : Nat} (G : Gd B (rw v)) (z1 : ∀ d, d < 24 → v2 1 d = 0) (z2 : ∀ d, d < 24 → v2 2 d = 0) (z3 : ∀ j, j < 36 → v2 3 j = 0) : Gd 0 (rw (wd0 v v2)) := by
  refine Gd_cp G (fun d hd => wd0_h v v2 hd) (LSn_of (show LSn (v 4) from G.1) (fun j hj => wd0_n v v2 (by omega))) (wd0_n v v2 (by omega)) (wd0_n v v2 (by omega)) (fun j hj => ?_) (fun d hd => ?_)
  · obtain ⟨a, b⟩ := zero_a (r := rw (wd0 v v2)) (k := 90 + 3 * j) ((rw_k2 _ j).trans (z3 _ (by omega)))
    exact ⟨a, by omega⟩
  · obtain ⟨a, b⟩ := zero_a (r := rw (wd0 v v2)) (k := 26 + d) ((rw_p hd).trans (z1 d hd))
    obtain ⟨a', b'⟩ := zero_a (r := rw (wd0 v v2)) (k := 50 + d) ((rw_f hd).trans (z2 d hd))
    exact ⟨a, a', by omega, by omega⟩
/-- the second trial's world -/
def wd1 (v u : SV) : SV := mkL (fL_copy 24 (v 0) 24 (u 0)) (u 1) (u 2) (u 3) (upd (fL_copy 21 (v 4) 21 (u 4)) 5 (1 - v 4 5))
theorem wd1_h (v u : SV) {d : Nat} (hd : d < 24) : wd1 v u 0 d = v 0 d := copy_v 24 24 (v 0) (u 0) (by omega) d hd
theorem wd1_n (v u : SV) {j : Nat} (h : j ≠ 5) (hj : j < 21) : wd1 v u 4 j = v 4 j := (show upd (fL_copy 21 (v 4) 21 (u 4)) 5 (1 - v 4 5) j = _ from pk_un h).trans (copy_v 21 21 (v 4) (u 4) (by omega) j hj)
theorem wd1_5 (v u : SV) : wd1 v u 4 5 = 1 - v 4 5 := show upd (fL_copy 21 (v 4) 21 (u 4)) 5 (1 - v 4 5) 5 = _ from pk_us
theorem Gd_w1 {v u : SV} {B C : Nat} (G : Gd B (rw v)) (G2 : Gd C (rw u)) : Gd C (rw (wd1 v u)) := by
  refine Gd_cp G (fun d hd => wd1_h v u hd) ?_ (wd1_n v u (by omega) (by omega)) (wd1_n v u (by omega) (by omega)) (fun j hj => ?_) (fun d hd => ?_)
  · exact LSn_way (v := v) (n := fL_copy 21 (v 4) 21 (u 4)) (w := 1 - v 4 5) (show Lgs v from G.1) (LSn_of (show LSn (v 4) from G.1) (fun j hj => copy_v 21 21 (v 4) (u 4) (by omega) j (by omega))) rfl
  · have e : rw (wd1 v u) (90 + 3 * j) = rw u (90 + 3 * j) := (rw_k2 (wd1 v u) j).trans (show u 3 (3 * j + 2) = _ from (rw_k2 u j).symm)
    rw [e, aN_e e]
    exact G2.2.2.2.2.1 j hj
  · have e : rw (wd1 v u) (26 + d) = rw u (26 + d) := (rw_p hd).trans (show u 1 d = _ from (rw_p hd).symm)
    have e' : rw (wd1 v u) (50 + d) = rw u (50 + d) := (rw_f hd).trans (show u 2 d = _ from (rw_f hd).symm)
    rw [e, aN_e e, e', aN_e e']
    exact G2.2.2.2.2.2 d hd
theorem al_sp {P : Nat → Prop} (h0 : ∀ d, d < 24 → P d) (h24 : P 24) (h25 : P 25) (h74 : ∀ i, i < 7 → P (74 + i)) (h81 : P 81) : ∀ k, k < 26 ∨ (74 ≤ k ∧ k < 82) → P k := by
  intro k hk
  by_cases a : k < 24
  · exact h0 k a
  by_cases a1 : k = 24
  · rw [a1]; exact h24
  by_cases a2 : k = 25
  · rw [a2]; exact h25
  by_cases a3 : k = 81
  · rw [a3]; exact h81
  obtain ⟨i, rfl⟩ : ∃ i, k = 74 + i := ⟨k - 74, by omega⟩
  exact h74 i (by omega)
theorem w0_k (v v2 : SV) : ∀ k, k < 26 ∨ (74 ≤ k ∧ k < 82) → rw (wd0 v v2) k = rw v k :=
  al_sp (fun d hd => (rw_h hd).trans ((wd0_h v v2 hd).trans (rw_h hd).symm)) (wd0_n v v2 (j := 13) (by omega)) (wd0_n v v2 (j := 14) (by omega)) (fun i hi => (rw_s hi).trans ((wd0_n v v2 (by omega)).trans (rw_s hi).symm)) (wd0_n v v2 (j := 7) (by omega))
theorem w1_k (v u : SV) : ∀ k, k < 26 ∨ (74 ≤ k ∧ k < 82) → rw (wd1 v u) k = upd (rw v) 79 (1 - v 4 5) k := by
  refine al_sp (fun d hd => ?_) ?_ ?_ (fun i hi => ?_) ?_
  · rw [pk_un (by omega)]
    exact (rw_h hd).trans ((wd1_h v u hd).trans (rw_h hd).symm)
  · rw [pk_un (by omega)]; exact wd1_n v u (j := 13) (by omega) (by omega)
  · rw [pk_un (by omega)]; exact wd1_n v u (j := 14) (by omega) (by omega)
  · by_cases z : i = 5
    · subst z
      rw [pk_us, rw_s hi]
      exact wd1_5 v u
    · rw [pk_un (by omega)]
      exact (rw_s hi).trans ((wd1_n v u z (by omega)).trans (rw_s hi).symm)
  · rw [pk_un (by omega)]; exact wd1_n v u (j := 7) (by omega) (by omega)
theorem fnN_e {r r' : Nat → Int32} {X : Nat} (h : spE r' X = spE r X) : fnN r' X = fnN r X := by
  unfold fnN
  rw [h]
theorem RLw_t {B : Nat} {x : HV} {v : SV} (R : RLw B x v) (t : SV) : RLw B (mkH (x 0) (x 1) t (x 3) (x 4) (x 5) (x 6) (x 7) (x 8) (x 9 0) (x 9 1) (x 9 2 0) (x 9 2 1) (x 9 2 2)) v := R
theorem try_w {B X w : Nat} {x : HV} {v : SV} (R : RLw B x v) (hX : X < 2 ^ 24) (hw : w ≤ 1) (hB : B + 1 < 2 ^ 30) : RLw B (fX5_tryLine x (nI X) (nI w)) v ∧ ∀ q, q < 5 → fX5_tried (fX5_tryLine x (nI X) (nI w)) (nI q) = brN (upd (rw v) 79 (nI w)) X q := by
  obtain ⟨⟨t, e⟩, h⟩ := try_5 R.1 R.2.1 hX hw hB (y := fX5_tryLine x (nI X) (nI w)) rfl
  refine ⟨?_, h⟩
  rw [e]
  exact RLw_t R t
theorem ifp {B X q : Nat} {x : HV} {v : SV} {y z : Int32} (hy : y = nI X) (hz : z = nI q) (R : RLw B x v) (hX : X < 2 ^ 24) (hB : B + 1 < 2 ^ 30) (hq : q < 5) : RLw B (fX5_ifPrinted x y z).1 v ∧ (fX5_ifPrinted x y z).2 = brN (rw v) X q := by
  subst hy
  subst hz
  obtain ⟨-, -, -, -, -, ⟨e79, b⟩, -⟩ := SI_n R.2.1.1
  have s5 : fX2_setting (x 0) 5 = nI (aN (rw v) 79) := (at7 _ 5 (by omega)).trans ((R.1.2.2.2.2.1 5 (by omega)).trans e79)
  obtain ⟨h1, h2⟩ := try_w (w := aN (rw v) 79) R hX b hB
  have h3 := h2 q hq
  rw [upd_self e79] at h3
  unfold fX5_ifPrinted
  dsimp only
  rw [s5]
  exact ⟨h1, h3⟩
theorem bw {B X : Nat} {x : HV} {v : SV} (R : RLw B x v) (hX : X < 2 ^ 24) (hB : B + 1 < 2 ^ 30) : RLw B (fX5_betterWay x (nI X)).1 v ∧ (fX5_betterWay x (nI X)).2 = if nI (lnT (upd (rw v) 79 0) X) ≤ nI (lnT (upd (rw v) 79 1) X) then 0 else 1 := by
  obtain ⟨h1, h2⟩ := try_w (w := 0) R hX (by omega) hB
  obtain ⟨h3, h4⟩ := try_w (w := 1) h1 hX (by omega) hB
  have e0 := h2 0 (by omega)
  have e1 := h4 0 (by omega)
  rw [show nI 0 = (0 : Int32) from rfl, show nI 1 = (1 : Int32) from rfl] at *
  have e0 : fX5_tried (fX5_tryLine x (nI X) 0) 0 = nI (lnT (upd (rw v) 79 0) X) := e0
  have e1 : fX5_tried (fX5_tryLine (fX5_tryLine x (nI X) 0) (nI X) 1) 0 = nI (lnT (upd (rw v) 79 1) X) := e1
  unfold fX5_betterWay fX5_fasterWay
  dsimp only
  rw [e0, e1]
  split
  · exact ⟨h3, rfl⟩
  · exact ⟨h3, rfl⟩
theorem ho_0 {r : Nat → Int32} (hI : SI r) : brN r 0 4 = nI (hoN r) := by
  have h := (aoN_le hI).1
  have e : ptN r 0 = 0 := by
    unfold ptN
    rw [show cntN 0 24 = 0 by decide, Nat.zero_add]
    exact Nat.div_eq_of_lt (by omega)
  show nI (max (hoN r) (spN r 0 (ptN r 0)).2.2.2.2) = _
  rw [e]
  show nI (max (hoN r) 0) = _
  rw [Nat.max_zero]
theorem most_n {x : HV} {v v2 : SV} {x1 : Int32} {p : SV × HV} {B s : Nat} (G : Gd B (rw v)) (hs : s ≤ 900) : lpF 24 0 (bL_would_66 x v v2 x1 p) (nI s) = nI (max (hoN (rw v)) s) := by
  have q := lpF_0 (fun i (t : Int32) => t = nI (max (mxN i (fun _ => true) (aN (rw v))) s)) (b := bL_would_66 x v v2 x1 p) 24 (nI s) ?_ (by show _ = nI (max 0 s); rw [Nat.zero_max])
  · exact q
  · rintro d t hd rfl
    have eh := G.2.1 d hd
    have eh0 : v 0 d = nI (aN (rw v) d) := (rw_h hd).symm.trans eh.1
    have hm : mxN d (fun _ => true) (aN (rw v)) ≤ 900 := mxN_le d (fun j hj _ => (G.2.1 j (by omega)).2)
    unfold bL_would_66 tL_would_J91
    dsimp only
    rw [eh0, imx2 (by omega) (by omega), mxN_t rfl]
    congr 1
    omega
theorem way_c {t0 t1 : Int32} (w : Nat) (hw : w ≤ 1) : (if t0 ≤ t1 then (0 : Int32) else 1) = if (if w = 0 then t0 else t1) = (if w = 0 then t1 else t0) then 0 else if (if w = 0 then t1 else t0) ≤ (if w = 0 then t0 else t1) then 1 - nI w else nI w := by
  match w, hw with
  | 0, _ =>
    rw [if_pos rfl, if_pos rfl]
    by_cases h : t0 = t1
    · rw [if_pos h, if_pos (by rw [h]; exact Int32.le_refl _)]
    · rw [if_neg h]
      by_cases h2 : t1 ≤ t0
      · rw [if_pos h2, if_neg (fun z => h (Int32.le_antisymm z h2))]
        rfl
      · rw [if_neg h2, if_pos (Int32.le_of_lt (Int32.not_le.mp h2))]
        rfl
  | 1, _ =>
    rw [if_neg (show ¬ (1 : Nat) = 0 by omega), if_neg (show ¬ (1 : Nat) = 0 by omega)]
    by_cases h : t1 = t0
    · rw [if_pos h, if_pos (by rw [h]; exact Int32.le_refl _)]
    · rw [if_neg h]
      by_cases h2 : t0 ≤ t1
      · rw [if_pos h2, if_pos h2]
        rfl
      · rw [if_neg h2, if_neg h2]
        rfl
  | w + 2, h => exact absurd h (by omega)
theorem J265_1 {x xx : HV} {v v2 p : SV} {B X : Nat} (r7 : RLw B (fX5_betterWay xx (nI X)).1 v) {z : Int32} (hz : (fX5_betterWay xx (nI X)).2 = z) : (tL_would_J265 x v v2 (nI X) 1 z (p, xx)).2 = 1 ∧ RLw B (tL_would_J265 x v v2 (nI X) 1 z (p, xx)).1.2 v := by
  unfold tL_would_J265
  dsimp only
  rw [if_neg one_ne, if_pos hz]
  exact ⟨rfl, r7⟩
theorem J186_e (x xx : HV) (v v2 u : SV) (X : Nat) : tL_would_J186 x v v2 (nI X) 1 (u, xx) = if u 4 16 = fL_prints (wd1 v u) (nI X) 4 16 then tL_would_J265 x v v2 (nI X) 1 0 (fL_prints (wd1 v u) (nI X), xx) else if fL_prints (wd1 v u) (nI X) 4 16 ≤ u 4 16 then tL_would_J265 x v v2 (nI X) 1 (1 - v 4 5) (fL_prints (wd1 v u) (nI X), xx) else tL_would_J265 x v v2 (nI X) 1 (v 4 5) (fL_prints (wd1 v u) (nI X), xx) := rfl
theorem would_tail {x xx : HV} {v v2 u : SV} {B X : Nat} (R : RLw B xx v) (hX : X < 2 ^ 24) (hB : B + 1 < 2 ^ 30) (G1 : Gd 1 (rw u)) (n16 : u 4 16 = nI (lnT (rw v) X)) : (tL_would_J186 x v v2 (nI X) 1 (u, xx)).2 = 1 ∧ RLw B (tL_would_J186 x v v2 (nI X) 1 (u, xx)).1.2 v := by
  have G := R.2.1
  obtain ⟨-, -, -, -, -, ⟨e79, b79⟩, -⟩ := SI_n G.1
  have e5 : v 4 5 = nI (aN (rw v) 79) := e79
  have p16 := (PLL (Gd_w1 G G1) hX).2.1
  rw [(spE_congr (w1_k v u) X).2.2] at p16
  obtain ⟨r7, a7⟩ := bw R hX hB
  have c1 : nI (lnT (rw v) X) = if aN (rw v) 79 = 0 then nI (lnT (upd (rw v) 79 0) X) else nI (lnT (upd (rw v) 79 1) X) := by
    by_cases z : aN (rw v) 79 = 0
    · rw [if_pos z]
      rw [z] at e79
      rw [upd_self (show rw v 79 = 0 from e79)]
    · rw [if_neg z]
      have z1 : aN (rw v) 79 = 1 := by omega
      rw [z1] at e79
      rw [upd_self (show rw v 79 = 1 from e79)]
  have c2 : nI (lnT (upd (rw v) 79 (1 - v 4 5)) X) = if aN (rw v) 79 = 0 then nI (lnT (upd (rw v) 79 1) X) else nI (lnT (upd (rw v) 79 0) X) := by
    by_cases z : aN (rw v) 79 = 0
    · rw [if_pos z, e5, z]
      rfl
    · rw [if_neg z, e5, show aN (rw v) 79 = 1 by omega]
      rfl
  rw [way_c (aN (rw v) 79) b79, ← c1, ← c2, ← e5] at a7
  rw [J186_e, p16, n16]
  by_cases q1 : nI (lnT (rw v) X) = nI (lnT (upd (rw v) 79 (1 - v 4 5)) X)
  · rw [if_pos q1] at a7 ⊢
    exact J265_1 r7 a7
  · rw [if_neg q1] at a7 ⊢
    by_cases q2 : nI (lnT (upd (rw v) 79 (1 - v 4 5)) X) ≤ nI (lnT (rw v) X)
    · rw [if_pos q2] at a7 ⊢
      exact J265_1 r7 a7
    · rw [if_neg q2] at a7 ⊢
      exact J265_1 r7 a7
theorem would_1 {x : HV} {v v2 : SV} {B X : Nat} (R : RLw B x v) (hX : X < 2 ^ 24) (hB : B + 1 < 2 ^ 30) (z1 : ∀ d, d < 24 → v2 1 d = 0) (z2 : ∀ d, d < 24 → v2 2 d = 0) (z3 : ∀ j, j < 36 → v2 3 j = 0) :
    (fL_would x v v2 (nI X)).2 = 1 ∧ RLw B (fL_would x v v2 (nI X)).1.2 v := by
  have G := R.2.1
  obtain ⟨-, -, -, -, -, ⟨e79, b79⟩, -⟩ := SI_n G.1
  have e5 : v 4 5 = nI (aN (rw v) 79) := e79
  have L0 := PLL (Gd_w0 G z1 z2 z3) hX
  obtain ⟨m1, m2, m3⟩ := spE_congr (w0_k v v2) X
  have m4 := fnN_e m2
  obtain ⟨u, eu⟩ : ∃ u, u = fL_prints (wd0 v v2) (nI X) := ⟨_, rfl⟩
  have G1 : Gd 1 (rw (fL_prints (wd0 v v2) (nI X))) := Gd_row L0.1 (Gd_nxt (Gd_w0 G z1 z2 z3) hX (by omega))
  have l20 : (spE (rw v) X).2.2.2.2 ≤ 900 := (sp_le G.1 (fun d hd => (G.2.1 d hd).2) hX (ptN (rw v) X)).2
  have ef : fL_would x v v2 (nI X) = tL_would_66 x v v2 (nI X) (fL_prints (wd0 v v2) (nI X), x) (lpF 24 0 (bL_would_66 x v v2 (nI X) (fL_prints (wd0 v v2) (nI X), x)) (fL_prints (wd0 v v2) (nI X) 4 20)) := rfl
  rw [ef]
  rw [← eu] at L0 G1 ⊢
  obtain ⟨n0, n16, n17, n18, n19, n20⟩ := L0
  rw [m3] at n16
  rw [m2] at n17 n20
  rw [m1] at n18
  rw [m4] at n19
  rw [n20, most_n G l20]
  obtain ⟨r1, a1⟩ := ifp (q := 0) (y := nI X) (z := 0) rfl rfl R hX hB (by omega)
  obtain ⟨r2, a2⟩ := ifp (q := 1) (y := nI X) (z := 1) rfl rfl r1 hX hB (by omega)
  obtain ⟨r3, a3⟩ := ifp (q := 2) (y := nI X) (z := 2) rfl rfl r2 hX hB (by omega)
  obtain ⟨r4, a4⟩ := ifp (q := 3) (y := nI X) (z := 3) rfl rfl r3 hX hB (by omega)
  obtain ⟨r5, a5⟩ := ifp (q := 4) (y := nI X) (z := 4) rfl rfl r4 hX hB (by omega)
  obtain ⟨r6, a6⟩ := ifp (X := 0) (q := 4) (y := 0) (z := 4) rfl rfl r5 (by omega) hB (by omega)
  have c7 := hottestDot_2 r6.2.1 r6.1.1
  unfold tL_would_66
  dsimp only
  rw [if_pos (a1.trans n16.symm), if_pos (a2.trans n17.symm), if_pos (a3.trans n18.symm), if_pos (a4.trans n19.symm), if_pos (show _ = nI (max (hoN (rw v)) (spE (rw v) X).2.2.2.2) from a5), if_pos (show _ = fX5_count _ 7 from (a6.trans (ho_0 G.1)).trans c7.symm)]
  exact would_tail r6 hX hB G1 n16
