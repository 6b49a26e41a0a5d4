/-! from 66.pure8.lean.txt -/
theorem coolN_s (c t : Nat) : ∀ h, coolN c (t + 1) h = cool c (coolN c t h) := by
  induction t with
  | zero => exact fun h => rfl
  | succ t ih => exact fun h => ih (cool c h)
theorem coolN_add (c a b : Nat) : ∀ h, coolN c (a + b) h = coolN c b (coolN c a h) := by
  induction a with
  | zero => intro h; rw [Nat.zero_add]; rfl
  | succ a ih =>
    intro h
    rw [show a + 1 + b = (a + b) + 1 by omega]
    exact ih (cool c h)
theorem cool_lt {c h : Nat} (hh : 0 < h) : cool c h < h := by
  have := Nat.sub_le h (h / c)
  unfold cool
  omega
def dn (c m : Nat) : Nat → Nat → Nat
  | 0, _ => 0
  | n + 1, h => if h ≤ m then 0 else dn c m n (cool c h) + 1
theorem dn_spec (c m n : Nat) : ∀ h, h ≤ n → dn c m n h ≤ h ∧ coolN c (dn c m n h) h ≤ m ∧ ∀ i, i < dn c m n h → m < coolN c i h := by
  induction n with
  | zero =>
    intro h hh
    have e : h = 0 := by omega
    subst e
    exact ⟨Nat.le_refl _, Nat.zero_le _, fun i hi => absurd hi (Nat.not_lt_zero i)⟩
  | succ n ih =>
    intro h hh
    by_cases k : h ≤ m
    · have e : dn c m (n + 1) h = 0 := if_pos k
      rw [e]
      exact ⟨Nat.zero_le _, k, fun i hi => absurd hi (Nat.not_lt_zero i)⟩
    · have e : dn c m (n + 1) h = dn c m n (cool c h) + 1 := if_neg k
      have hl := cool_lt (c := c) (h := h) (by omega)
      obtain ⟨a1, a2, a3⟩ := ih (cool c h) (by omega)
      rw [e]
      refine ⟨by omega, a2, fun i hi => ?_⟩
      cases i with
      | zero => exact Nat.not_le.mp k
      | succ i => exact a3 i (by omega)
def wN (c m h : Nat) : Nat := dn c m h h
theorem wN_le (c m h : Nat) : wN c m h ≤ h := (dn_spec c m h h (Nat.le_refl _)).1
theorem wN_c {c m h i : Nat} : coolN c i h ≤ m ↔ wN c m h ≤ i := by
  obtain ⟨-, a2, a3⟩ := dn_spec c m h h (Nat.le_refl _)
  refine ⟨fun q => Nat.not_lt.mp (fun z => Nat.not_le.mpr (a3 i z) q), fun q => ?_⟩
  obtain ⟨b, rfl⟩ := Nat.exists_eq_add_of_le q
  rw [coolN_add]
  exact Nat.le_trans (coolN_le c b _) a2
theorem timeDownTo_n {v : SV} {c h m : Nat} (hv : v 2 1 = nI c) (hc : 1 ≤ c) (hc2 : c < 2 ^ 30) (hh : h ≤ 900) (hm : m < 2 ^ 31) : fX2_timeDownTo v (nI h) (nI m) = nI (wN c m h) := by
  have hw := wN_le c m h
  have hS : mS = 1000000 := rfl
  unfold fX2_timeDownTo tX2_timeDownTo_15
  dsimp only
  rw [show fX5_at 7 (v 2) 1 = nI c from (at7 (v 2) 1 (by omega)).trans hv]
  refine lpB_ind (Q := fun s => s.2 = nI (wN c m h)) (fun i s => s = (nI (coolN c i h), nI i)) (wN c m h) ?_ ?_ (mS + 1) 0 _ (Nat.zero_le _) (by omega) ?_
  · rintro i s hi rfl
    have h1 : m < coolN c i h := Nat.not_le.mp (fun q => Nat.not_le.mpr hi (wN_c.mp q))
    have h2 := coolN_le c i h
    have e : bX2_timeDownTo_15 v (nI h) (nI m) (nI c) (nI (coolN c i h), nI i) = (true, (nI (coolN c (i + 1) h), nI (i + 1))) := by
      unfold bX2_timeDownTo_15
      refine (if_neg (nI_ge h1 (by omega))).trans ((if_neg (nI_ge (a := i) (b := 1000000) (by omega) (by omega))).trans ?_)
      show (true, (fX2_cooled (nI (coolN c i h)) (nI c), nI i + 1)) = _
      rw [cooled_X2 hc hc2 (by omega), nI_1, coolN_s]
    rw [e]
    exact ⟨rfl, rfl⟩
  · rintro s rfl
    have e : bX2_timeDownTo_15 v (nI h) (nI m) (nI c) (nI (coolN c (wN c m h) h), nI (wN c m h)) = (false, (nI (coolN c (wN c m h) h), nI (wN c m h))) := by
      unfold bX2_timeDownTo_15
      exact if_pos (nI_le (wN_c.mpr (Nat.le_refl _)) hm)
    rw [e]
    exact ⟨rfl, rfl⟩
  · rw [← nI_0]
    rfl
theorem atN {n i : Nat} (f : Nat → Int32) (hi : i < n) (hn : n < 2 ^ 31) : fX5_at n f (nI i) = f i := by
  unfold fX5_at
  rw [if_neg (nI_pos (by omega)), if_neg (nI_ge hi hn), nI_clamp (by omega)]
def cntN (X : Nat) : Nat → Nat
  | 0 => 0
  | n + 1 => cntN X n + (X.testBit n).toNat
theorem cntN_le (X n : Nat) : cntN X n ≤ n := by
  induction n with
  | zero => exact Nat.le_refl _
  | succ n ih =>
    show cntN X n + (X.testBit n).toNat ≤ n + 1
    have := Bool.toNat_le (X.testBit n)
    omega
theorem cntN_t {X n : Nat} (h : X.testBit n = true) : cntN X (n + 1) = cntN X n + 1 := by
  show cntN X n + (X.testBit n).toNat = _
  rw [h]
  rfl
theorem cntN_f {X n : Nat} (h : X.testBit n = false) : cntN X (n + 1) = cntN X n := by
  show cntN X n + (X.testBit n).toNat = _
  rw [h]
  rfl
theorem cntN_mono (X : Nat) {a b : Nat} (h : a ≤ b) : cntN X a ≤ cntN X b := by
  induction h with
  | refl => exact Nat.le_refl _
  | step _ ih => exact Nat.le_trans ih (Nat.le_add_right _ _)
def prt (w parts ao X d : Nat) : Nat := if w = 1 then cntN X d % parts else cntN X d / ao
def memb (w parts ao X k : Nat) : Nat → Bool := fun d => X.testBit d && decide (prt w parts ao X d = k)
theorem dotsOfPart_2 {v : SV} {X k parts ao w : Nat} (hX : X < 2 ^ 24) (hk : k < parts) (hp : parts ≤ 24) (ha : 1 ≤ ao) (ha2 : ao ≤ 200) (hw : v 2 5 = nI w) (hw1 : w ≤ 1) :
    fX2_dotsOfPart v (nI X) (nI k) (nI parts) (nI ao) = nI (mkN 24 (memb w parts ao X k)) := by
  have key : ∀ y : Int32, y = nI w → (lpF 24 0 (bX2_dotsOfPart_41 v (nI X) (nI k) (nI parts) (nI ao) y) (0, 0)).1 = nI (mkN 24 (memb w parts ao X k)) := by
    rintro y rfl
    have h := lpF_0 (fun i s => s = (nI (mkN i (memb w parts ao X k)), nI (cntN X i))) (b := bX2_dotsOfPart_41 v (nI X) (nI k) (nI parts) (nI ao) (nI w)) 24 (0, 0) ?_ (by rw [← nI_0]; rfl)
    · rw [h]
    · rintro d s hd rfl
      have hc := cntN_le X d
      unfold bX2_dotsOfPart_41
      dsimp only
      rw [bitOf_nI (by omega) hd]
      by_cases hb : X.testBit d = true
      · rw [hb, if_pos (by decide), cntN_t hb]
        have e : ∀ z : Nat, prt w parts ao X d = z → z < 2 ^ 31 → tX2_dotsOfPart_J75 v (nI X) (nI k) (nI parts) (nI ao) (nI w) d (nI (mkN d (memb w parts ao X k))) (nI (cntN X d)) (nI z) = (nI (mkN (d + 1) (memb w parts ao X k)), nI (cntN X d + 1)) := by
          intro z hz hz2
          unfold tX2_dotsOfPart_J75
          rw [mkN_step _ d (by omega), nI_1]
          by_cases q : z = k
          · rw [if_pos (by rw [q]), if_pos (show memb w parts ao X k d = true by unfold memb; rw [hb, hz, decide_eq_true q]; rfl)]
          · rw [if_neg (fun z2 => q ((nI_eq hz2 (by omega)).mp z2)), if_neg (show ¬ memb w parts ao X k d = true by unfold memb; rw [hz, decide_eq_false q, Bool.and_false]; decide)]
            rw [show nI (mkN d (memb w parts ao X k)) ||| 0 = nI (mkN d (memb w parts ao X k)) from by rw [← nI_0, nx_or, Nat.or_zero]]
        by_cases q : w = 0
        · rw [if_pos (by rw [q]; rfl), pk_div (by omega) (by omega) (by omega)]
          exact e _ (by unfold prt; rw [if_neg (by omega)]) (Nat.lt_of_le_of_lt (Nat.div_le_self _ _) (by omega))
        · rw [if_neg (nI_ne0 (by omega) (by omega)), pk_rem (by omega) (by omega) (by omega)]
          exact e _ (by unfold prt; rw [if_pos (by omega)]) (Nat.lt_of_lt_of_le (Nat.mod_lt _ (by omega)) (by omega))
      · have hb := eq_false_of_ne_true hb
        rw [hb, if_neg (by decide), cntN_f hb, mkN_step _ d (by omega), if_neg (show ¬ memb w parts ao X k d = true by unfold memb; rw [hb, Bool.false_and]; decide)]
        rw [show nI (mkN d (memb w parts ao X k)) ||| 0 = nI (mkN d (memb w parts ao X k)) from by rw [← nI_0, nx_or, Nat.or_zero]]
  unfold fX2_dotsOfPart
  rw [if_neg (show ¬ nI parts < 1 from nI_nlt (a := parts) (b := 1) (by omega) (by omega)), if_pos (show (1 : Int32) ≤ nI ao from nI_le (a := 1) ha (by omega)), show fX5_at 7 (v 2) 5 = nI w from (at7 (v 2) 5 (by omega)).trans hw]
  by_cases q : w = 1
  · rw [if_pos (by rw [q]; rfl)]
    exact key 1 (by rw [q]; rfl)
  · rw [if_neg (show ¬ nI w = (1 : Int32) from fun z => q ((nI_eq (b := 1) (by omega) (by omega)).mp z))]
    exact key 0 (by rw [show w = 0 by omega]; rfl)
theorem waitOfPart_2 {v : SV} {c bd : Nat} {h p : Nat → Nat} (m : Nat → Bool) (hv : v 2 1 = nI c) (hc : 1 ≤ c) (hc2 : c < 2 ^ 30) (hb : v 2 2 = nI bd) (hbd : bd ≤ 900) (hp : ∀ d, d < 24 → p d ≤ bd) (hh : ∀ d, h d ≤ 900) (h0 : ∀ d, d < 24 → v 0 d = nI (h d)) (h1 : ∀ d, d < 24 → v 1 d = nI (p d)) :
    fX2_waitOfPart v (nI (mkN 24 m)) = nI (mxN 24 m (fun d => wN c (bd - p d) (h d))) := by
  unfold fX2_waitOfPart tX2_waitOfPart_14
  dsimp only
  rw [show fX5_at 7 (v 2) 2 = nI bd from (at7 (v 2) 2 (by omega)).trans hb]
  refine lpF_0 (fun i s => s = nI (mxN i m (fun d => wN c (bd - p d) (h d)))) 24 0 ?_ (by rw [← nI_0]; rfl)
  rintro d s hd rfl
  unfold bX2_waitOfPart_14
  dsimp only
  have e1 : fX5_at 24 (v 0) (nI d) = nI (h d) := (atN (v 0) hd (by omega)).trans (h0 d hd)
  have e2 : fX5_at 24 (v 1) (nI d) = nI (p d) := (atN (v 1) hd (by omega)).trans (h1 d hd)
  have hpd := hp d hd
  have e3 : fX2_timeDownTo v (fX5_at 24 (v 0) (nI d)) (nI bd - fX5_at 24 (v 1) (nI d)) = nI (wN c (bd - p d) (h d)) := by
    rw [e1, e2, pk_sub hpd]
    exact timeDownTo_n hv hc hc2 (hh d) (by omega)
  rw [e3, bit_mkN m hd]
  have g1 : mxN d m (fun d => wN c (bd - p d) (h d)) ≤ 900 := mxN_le d (fun j _ _ => Nat.le_trans (wN_le _ _ _) (hh j))
  have g2 : wN c (bd - p d) (h d) ≤ 900 := Nat.le_trans (wN_le _ _ _) (hh d)
  by_cases q : m d = true
  · rw [mxN_t q, if_pos ((nb_1 _).mpr q)]
    exact imx (by omega) (by omega)
  · rw [mxN_f q, if_neg (fun z => q ((nb_1 _).mp z))]
theorem longestPulse_2 {v : SV} {p : Nat → Nat} (m : Nat → Bool) (hp : ∀ d, d < 24 → p d ≤ 900) (h1 : ∀ d, d < 24 → v 1 d = nI (p d)) : fX2_longestPulse v (nI (mkN 24 m)) = nI (mxN 24 m p) := by
  unfold fX2_longestPulse tX2_longestPulse_4
  dsimp only
  refine lpF_0 (fun i s => i ≤ 24 → s = nI (mxN i m p)) 24 0 ?_ (fun _ => by rw [← nI_0]; rfl) (Nat.le_refl _)
  intro d s hd hs _
  rw [hs (by omega)]
  unfold bX2_longestPulse_4
  dsimp only
  rw [bit_mkN m hd, h1 d hd]
  have g1 : mxN d m p ≤ 900 := mxN_le d (fun j hj _ => hp j (by omega))
  have g2 := hp d hd
  by_cases q : m d = true
  · rw [mxN_t q, if_pos ((nb_1 _).mpr q)]
    exact imx (by omega) (by omega)
  · rw [mxN_f q, if_neg (fun z => q ((nb_1 _).mp z))]
def h2N (m : Nat → Bool) (h p : Nat → Nat) : Nat → Nat := fun d => if m d then h d + p d else h d
theorem h2N_t {m : Nat → Bool} {h p : Nat → Nat} {d : Nat} (q : m d = true) : h2N m h p d = h d + p d := if_pos q
theorem h2N_f {m : Nat → Bool} {h p : Nat → Nat} {d : Nat} (q : ¬ m d = true) : h2N m h p d = h d := if_neg q
def dkN (p : Nat) : Nat := if p = 0 then 110 else if p = 1 then 90 else 150
theorem dk_2 : ∀ p, p < 3 → fX5_at 3 st4 (nI p) = nI (dkN p) := by decide +kernel
theorem isDark_2 {v : SV} {p n : Nat} (hp : v 8 10 = nI p) (h : p ≤ 2) (hn : n < 2 ^ 31) : fX2_isDark v (nI n) = if dkN p ≤ n then 1 else 0 := by
  have hk : dkN p < 2 ^ 31 := by unfold dkN; split <;> (try split) <;> omega
  unfold fX2_isDark
  rw [hp, dk_2 p (by omega)]
  by_cases q : dkN p ≤ n
  · rw [if_pos q, if_neg (nI_nlt q hn)]
  · rw [if_neg q, if_pos (nI_lt (by omega) hk)]
theorem heatPart_2 {v : SV} {pp hot : Nat} {h p : Nat → Nat} (m : Nat → Bool) (hpp : v 8 10 = nI pp) (hpp2 : pp ≤ 2) (hp : ∀ d, d < 24 → p d ≤ 900) (hh : ∀ d, h d ≤ 900) (hhot : hot ≤ 5000) (h0 : ∀ d, d < 24 → v 0 d = nI (h d)) (h1 : ∀ d, d < 24 → v 1 d = nI (p d)) (h7 : v 8 7 = nI hot) :
    (fX2_heatPart v (nI (mkN 24 m))).2 = nI (mkN 24 (fun d => m d && decide (dkN pp ≤ h2N m h p d))) ∧ (∀ d, d < 24 → (fX2_heatPart v (nI (mkN 24 m))).1 0 d = nI (h2N m h p d)) ∧ (fX2_heatPart v (nI (mkN 24 m))).1 8 7 = nI (max hot (mxN 24 m (h2N m h p))) ∧
    (∀ k, 1 ≤ k → k < 8 → (fX2_heatPart v (nI (mkN 24 m))).1 k = v k) ∧ (∀ k, k < 11 → k ≠ 7 → (fX2_heatPart v (nI (mkN 24 m))).1 8 k = v 8 k) := by
  unfold fX2_heatPart tX2_heatPart_4
  dsimp only
  have key := lpF_0 (fun i (s : Int32 × SV) => i ≤ 24 → s.1 = nI (mkN i (fun d => m d && decide (dkN pp ≤ h2N m h p d))) ∧ (∀ d, d < 24 → s.2 0 d = nI (if d < i then h2N m h p d else h d)) ∧ s.2 8 7 = nI (max hot (mxN i m (h2N m h p))) ∧
    (∀ k, 1 ≤ k → k < 8 → s.2 k = v k) ∧ (∀ k, k < 11 → k ≠ 7 → s.2 8 k = v 8 k)) (b := bX2_heatPart_4 v (nI (mkN 24 m))) 24 (0, v) ?_ ?_ (Nat.le_refl _)
  · obtain ⟨c1, c2, c3, c4, c5⟩ := key
    refine ⟨c1, fun d hd => ?_, c3, c4, c5⟩
    rw [c2 d hd, if_pos hd]
  · intro d s hd hs _
    obtain ⟨c1, c2, c3, c4, c5⟩ := hs (by omega)
    have g1 : mxN d m (h2N m h p) ≤ 1800 := mxN_le d (fun j hj hm => by
      have := hp j (by omega)
      have := hh j
      rw [h2N_t hm]; omega)
    have g2 := hp d hd
    have g3 := hh d
    unfold bX2_heatPart_4
    dsimp only
    rw [bit_mkN m hd]
    by_cases q : m d = true
    · rw [if_pos ((nb_1 _).mpr q)]
      have e0 : s.2 0 d + fX5_at 24 (s.2 1) (nI d) = nI (h2N m h p d) := by
        rw [c2 d hd, if_neg (by omega), c4 1 (by omega) (by omega), (atN (v 1) hd (by omega)).trans (h1 d hd), nI_add, h2N_t q]
      rw [e0]
      have e1 : upd (s.2 0) d (nI (h2N m h p d)) d = nI (h2N m h p d) := pk_us
      have g4 : h2N m h p d ≤ 1800 := by rw [h2N_t q]; omega
      rw [e1, c3, imx (by omega) (by omega), isDark_2 (p := pp) (n := h2N m h p d) (by show s.2 8 10 = _; rw [c5 10 (by omega) (by omega), hpp]) hpp2 (by omega)]
      have f2 : ∀ j, j < 24 → upd (s.2 0) d (nI (h2N m h p d)) j = nI (if j < d + 1 then h2N m h p j else h j) := by
        intro j hj
        by_cases z : j = d
        · subst z
          rw [pk_us, if_pos (by omega)]
        · rw [pk_un z, c2 j hj]
          by_cases z2 : j < d
          · rw [if_pos z2, if_pos (by omega)]
          · rw [if_neg z2, if_neg (by omega)]
      have f3 : max (max hot (mxN d m (h2N m h p))) (h2N m h p d) = max hot (mxN (d + 1) m (h2N m h p)) := by rw [mxN_t q, Nat.max_assoc]
      rw [f3]
      by_cases z : dkN pp ≤ h2N m h p d
      · rw [if_pos z, if_neg (by decide)]
        refine ⟨?_, f2, rfl, al7 (c4 1 (by omega) (by omega)) (c4 2 (by omega) (by omega)) (c4 3 (by omega) (by omega)) (c4 4 (by omega) (by omega)) (c4 5 (by omega) (by omega)) (c4 6 (by omega) (by omega)) (c4 7 (by omega) (by omega)), al11 (c5 0 (by omega)) (c5 1 (by omega)) (c5 2 (by omega)) (c5 3 (by omega)) (c5 4 (by omega)) (c5 5 (by omega)) (c5 6 (by omega)) (fun x => absurd rfl x) (c5 8 (by omega)) (c5 9 (by omega)) (c5 10 (by omega))⟩
        show s.1 ||| _ = _
        rw [c1, mkN_step _ d (by omega), if_pos (by rw [q, decide_eq_true z]; rfl)]
      · rw [if_neg z, if_pos rfl]
        refine ⟨?_, f2, rfl, al7 (c4 1 (by omega) (by omega)) (c4 2 (by omega) (by omega)) (c4 3 (by omega) (by omega)) (c4 4 (by omega) (by omega)) (c4 5 (by omega) (by omega)) (c4 6 (by omega) (by omega)) (c4 7 (by omega) (by omega)), al11 (c5 0 (by omega)) (c5 1 (by omega)) (c5 2 (by omega)) (c5 3 (by omega)) (c5 4 (by omega)) (c5 5 (by omega)) (c5 6 (by omega)) (fun x => absurd rfl x) (c5 8 (by omega)) (c5 9 (by omega)) (c5 10 (by omega))⟩
        show s.1 ||| 0 = _
        rw [c1, mkN_step _ d (by omega), if_neg (by rw [decide_eq_false z, Bool.and_false]; decide)]
    · rw [if_neg (fun z => q ((nb_1 _).mp z))]
      refine ⟨?_, fun j hj => ?_, ?_, c4, c5⟩
      · show s.1 = _
        rw [c1, mkN_step _ d (by omega), if_neg (by rw [eq_false_of_ne_true q, Bool.false_and]; decide), Int32.or_zero]
      · show s.2 0 j = _
        rw [c2 j hj]
        by_cases z : j = d
        · subst z
          rw [if_neg (by omega), if_pos (by omega), h2N_f q]
        · by_cases z2 : j < d
          · rw [if_pos z2, if_pos (by omega)]
          · rw [if_neg z2, if_neg (by omega)]
      · show s.2 8 7 = _
        rw [c3, mxN_f q]
  · intro _
    refine ⟨nI_0.symm, fun d hd => ?_, ?_, fun _ _ _ => rfl, fun _ _ _ => rfl⟩
    · rw [if_neg (by omega)]
      exact h0 d hd
    · show v 8 7 = nI (max hot 0)
      rw [Nat.max_zero]
      exact h7

/-! from 67.pure9.lean.txt -/
def plI (p l b x dd s : Int32) : Int32 := (if 20 < ((s + (fX5_at 3 st3 p)) - (((20 * (fX5_bitOf l dd)) + (10 * (fX5_bitOf b dd))) + (5 * ((fX5_bitOf x (dd - 1)) + (fX5_bitOf x (dd + 1)))))) then ((s + (fX5_at 3 st3 p)) - (((20 * (fX5_bitOf l dd)) + (10 * (fX5_bitOf b dd))) + (5 * ((fX5_bitOf x (dd - 1)) + (fX5_bitOf x (dd + 1)))))) else 20)
theorem pulseIn_pl (v : SV) (x1 x2 x3 : Int32) : fX2_pulseIn v x1 x2 x3 = plI (v 8 10) (v 8 8) (v 8 9) x1 x2 x3 := rfl
theorem ge20 (E : Int32) : (if 20 ≤ E then E else 20) = (if 20 < E then E else 20) := by
  by_cases h : 20 < E
  · rw [if_pos h, if_pos (Int32.le_of_lt h)]
  · rw [if_neg h]
    split
    · rename_i k
      exact Int32.le_antisymm (Int32.not_lt.mp h) k
    · rfl
theorem st3_0 : fX5_at 3 st3 (nI 0) = 0 := by decide +kernel
theorem st3_1 : fX5_at 3 st3 (nI 1) = -15 := by decide +kernel
theorem st3_2 : fX5_at 3 st3 (nI 2) = 25 := by decide +kernel
theorem bit_n (x y : Int32) : ∃ n, n ≤ 1 ∧ fX5_bitOf x y = nI n := by
  rcases bit01 x y with h | h
  · exact ⟨0, by omega, h.trans nI_0.symm⟩
  · exact ⟨1, by omega, h⟩
theorem pl_base {p s : Nat} (hp : p ≤ 2) (h1 : 50 ≤ s) (h2 : s ≤ 300) : ∃ n, 35 ≤ n ∧ n ≤ 325 ∧ nI s + fX5_at 3 st3 (nI p) = nI n := by
  match p, hp with
  | 0, _ => exact ⟨s, by omega, by omega, by rw [st3_0, ← nI_0, nI_add]; rfl⟩
  | 1, _ => exact ⟨s - 15, by omega, by omega, by rw [st3_1, ← pk_sub (by omega), Int32.sub_eq_add_neg]; rfl⟩
  | 2, _ => exact ⟨s + 25, by omega, by omega, by rw [st3_2]; exact nI_add s 25⟩
  | p + 3, h => exact absurd h (by omega)
theorem plI_n {p s : Nat} (hp : p ≤ 2) (h1 : 50 ≤ s) (h2 : s ≤ 300) (l b x dd : Int32) : ∃ n, 20 ≤ n ∧ n ≤ 325 ∧ plI (nI p) l b x dd (nI s) = nI n := by
  obtain ⟨B, hB1, hB2, eB⟩ := pl_base hp h1 h2
  obtain ⟨a1, l1, e1⟩ := bit_n l dd
  obtain ⟨a2, l2, e2⟩ := bit_n b dd
  obtain ⟨a3, l3, e3⟩ := bit_n x (dd - 1)
  obtain ⟨a4, l4, e4⟩ := bit_n x (dd + 1)
  have eL : ((20 : Int32) * nI a1 + 10 * nI a2) + 5 * (nI a3 + nI a4) = nI (20 * a1 + 10 * a2 + 5 * (a3 + a4)) := by
    rw [show (20 : Int32) * nI a1 = nI (20 * a1) from pk_mul 20 a1, show (10 : Int32) * nI a2 = nI (10 * a2) from pk_mul 10 a2, nI_add a3 a4, show (5 : Int32) * nI (a3 + a4) = nI (5 * (a3 + a4)) from pk_mul 5 (a3 + a4), nI_add, nI_add]
  unfold plI
  rw [eB, e1, e2, e3, e4, eL]
  have hL : 20 * a1 + 10 * a2 + 5 * (a3 + a4) ≤ 40 := by omega
  generalize 20 * a1 + 10 * a2 + 5 * (a3 + a4) = L at hL ⊢
  by_cases q : L ≤ B
  · rw [pk_sub q]
    by_cases z : 20 < B - L
    · exact ⟨B - L, by omega, by omega, if_pos (nI_lt (a := 20) z (by omega))⟩
    · exact ⟨20, by omega, by omega, if_neg (nI_nlt (b := B - L) (a := 20) (by omega) (by omega))⟩
  · refine ⟨20, by omega, by omega, if_neg (fun z => ?_)⟩
    by_cases k : L < 2 ^ 30
    · have h3 := pk_sneg (a := B) (b := L) k (by omega)
      exact absurd (Int32.lt_trans (show (0 : Int32) < 20 by decide) z) (Int32.not_lt.mpr (Int32.le_of_lt h3))
    · omega
/-- the pulse of a dot by the row of the reference -/
def psN (r : Nat → Int32) (x : Int32) (d : Nat) (s : Int32) : Nat := (plI (r 81) (r 24) (r 25) x (nI d) s).toNatClampNeg
theorem psN_spec {r : Nat → Int32} {s : Nat} (hI : SI r) (x : Int32) (d : Nat) (h1 : 50 ≤ s) (h2 : s ≤ 300) : plI (r 81) (r 24) (r 25) x (nI d) (nI s) = nI (psN r x d (nI s)) ∧ 20 ≤ psN r x d (nI s) ∧ psN r x d (nI s) ≤ 325 := by
  obtain ⟨-, -, -, -, -, -, -, p, hp, e⟩ := hI
  obtain ⟨n, a1, a2, a3⟩ := plI_n hp h1 h2 (r 24) (r 25) x (nI d)
  have e2 : psN r x d (nI s) = n := by
    unfold psN
    rw [e, a3, nI_clamp (by omega)]
  rw [e2, e]
  exact ⟨a3, a1, a2⟩
def pN (r : Nat → Int32) (X d : Nat) : Nat := psN r (nI X) d (r 74)
theorem pN_spec {r : Nat → Int32} (hI : SI r) (X d : Nat) : plI (r 81) (r 24) (r 25) (nI X) (nI d) (r 74) = nI (pN r X d) ∧ 20 ≤ pN r X d ∧ pN r X d ≤ 325 := by
  obtain ⟨s, h1, h2, e⟩ := hI.1
  have h := psN_spec hI (nI X) d h1 h2
  unfold pN
  rw [e]
  exact h
theorem preparePulses_2 {v : SV} {r : Nat → Int32} {X : Nat} (hI : SI r) (h1 : v 8 10 = r 81) (h2 : v 8 8 = r 24) (h3 : v 8 9 = r 25) (h4 : v 2 0 = r 74) :
    (∀ d, d < 24 → fX2_preparePulses v (nI X) 1 d = nI (pN r X d)) ∧ fX2_preparePulses v (nI X) 0 = v 0 ∧ (∀ k, 2 ≤ k → k < 8 → fX2_preparePulses v (nI X) k = v k) ∧ (∀ k, k < 11 → fX2_preparePulses v (nI X) 8 k = v 8 k) := by
  have e : fX2_preparePulses v (nI X) = lpF 24 0 (bX2_preparePulses_11 v (nI X) (r 74)) v := by
    unfold fX2_preparePulses tX2_preparePulses_11
    rw [show fX5_at 7 (v 2) 0 = r 74 from (at7 (v 2) 0 (by omega)).trans h4]
  rw [e]
  refine lpF_0 (fun i (s : SV) => (∀ d, d < i → s 1 d = nI (pN r X d)) ∧ s 0 = v 0 ∧ (∀ k, 2 ≤ k → k < 8 → s k = v k) ∧ (∀ k, k < 11 → s 8 k = v 8 k)) 24 v ?_ ⟨fun d hd => absurd hd (Nat.not_lt_zero d), rfl, fun _ _ _ => rfl, fun _ _ => rfl⟩
  intro d s hd hs
  obtain ⟨c1, c2, c3, c4⟩ := hs
  have e : fX2_pulseIn s (nI X) (nI d) (r 74) = nI (pN r X d) := by
    rw [pulseIn_pl, c4 10 (by omega), c4 8 (by omega), c4 9 (by omega), h1, h2, h3]
    exact (pN_spec hI X d).1
  have eb : bX2_preparePulses_11 v (nI X) (r 74) d s = mkS (s 0) (upd (s 1) d (nI (pN r X d))) (s 2) (s 3) (s 4) (s 5) (s 6) (s 7) (s 8 0) (s 8 1) (s 8 2) (s 8 3) (s 8 4) (s 8 5) (s 8 6) (s 8 7) (s 8 8) (s 8 9) (s 8 10) := by
    unfold bX2_preparePulses_11
    dsimp only
    rw [e]
  rw [eb]
  refine ⟨fun j hj => ?_, c2, fun k k1 k2 => ?_, al11 (c4 0 (by omega)) (c4 1 (by omega)) (c4 2 (by omega)) (c4 3 (by omega)) (c4 4 (by omega)) (c4 5 (by omega)) (c4 6 (by omega)) (c4 7 (by omega)) (c4 8 (by omega)) (c4 9 (by omega)) (c4 10 (by omega))⟩
  · show upd (s 1) d (nI (pN r X d)) j = _
    by_cases z : j = d
    · subst z
      exact pk_us
    · rw [pk_un z]
      exact c1 j (by omega)
  · exact al8 (P := fun k => 2 ≤ k → mkS (s 0) (upd (s 1) d (nI (pN r X d))) (s 2) (s 3) (s 4) (s 5) (s 6) (s 7) (s 8 0) (s 8 1) (s 8 2) (s 8 3) (s 8 4) (s 8 5) (s 8 6) (s 8 7) (s 8 8) (s 8 9) (s 8 10) k = v k) (fun h => absurd h (by omega)) (fun h => absurd h (by omega)) (fun _ => c3 2 (by omega) (by omega)) (fun _ => c3 3 (by omega) (by omega)) (fun _ => c3 4 (by omega) (by omega)) (fun _ => c3 5 (by omega) (by omega)) (fun _ => c3 6 (by omega) (by omega)) (fun _ => c3 7 (by omega) (by omega)) k k2 k1
def aN (r : Nat → Int32) (k : Nat) : Nat := (r k).toNatClampNeg
theorem aN_i {r : Nat → Int32} {k c : Nat} (h : r k = nI c) (hc : c < 2 ^ 31) : aN r k = c := by
  unfold aN
  rw [h, nI_clamp hc]
def aoN (r : Nat → Int32) : Nat := max 1 (aN r 78 / aN r 77)
theorem SI_n {r : Nat → Int32} (hI : SI r) : (r 74 = nI (aN r 74) ∧ 50 ≤ aN r 74 ∧ aN r 74 ≤ 300) ∧ (r 75 = nI (aN r 75) ∧ 5 ≤ aN r 75 ∧ aN r 75 ≤ 200) ∧ (r 76 = nI (aN r 76) ∧ 330 ≤ aN r 76 ∧ aN r 76 ≤ 900) ∧ (r 77 = nI (aN r 77) ∧ 1 ≤ aN r 77 ∧ aN r 77 ≤ 20) ∧ (r 78 = nI (aN r 78) ∧ 1 ≤ aN r 78 ∧ aN r 78 ≤ 200) ∧ (r 79 = nI (aN r 79) ∧ aN r 79 ≤ 1) ∧ (r 80 = nI (aN r 80) ∧ aN r 80 ≤ 50) ∧ (r 81 = nI (aN r 81) ∧ aN r 81 ≤ 2) := by
  obtain ⟨⟨c0, a0, b0, e0⟩, ⟨c1, a1, b1, e1⟩, ⟨c2, a2, b2, e2⟩, ⟨c3, a3, b3, e3⟩, ⟨c4, a4, b4, e4⟩, ⟨c5, b5, e5⟩, ⟨c6, b6, e6⟩, c7, b7, e7⟩ := hI
  rw [aN_i e0 (by omega), aN_i e1 (by omega), aN_i e2 (by omega), aN_i e3 (by omega), aN_i e4 (by omega), aN_i e5 (by omega), aN_i e6 (by omega), aN_i e7 (by omega)]
  exact ⟨⟨e0, a0, b0⟩, ⟨e1, a1, b1⟩, ⟨e2, a2, b2⟩, ⟨e3, a3, b3⟩, ⟨e4, a4, b4⟩, ⟨e5, b5⟩, ⟨e6, b6⟩, e7, b7⟩
theorem aoN_le {r : Nat → Int32} (hI : SI r) : 1 ≤ aoN r ∧ aoN r ≤ 200 := by
  obtain ⟨-, -, -, -, ⟨-, -, h⟩, -⟩ := SI_n hI
  unfold aoN
  exact ⟨Nat.le_max_left _ _, Nat.max_le.mpr ⟨by omega, Nat.le_trans (Nat.div_le_self _ _) h⟩⟩
theorem ao_i {r : Nat → Int32} (hI : SI r) : r 78 / r 77 = nI (aN r 78 / aN r 77) ∧ aN r 78 / aN r 77 ≤ 200 := by
  obtain ⟨-, -, -, ⟨e3, a3, b3⟩, ⟨e4, a4, b4⟩, -⟩ := SI_n hI
  exact ⟨by rw [e3, e4, pk_div (by omega) (by omega) (by omega)], Nat.le_trans (Nat.div_le_self _ _) b4⟩
theorem dotsAtOnce_2 {v : SV} {r : Nat → Int32} (hI : SI r) (h3 : v 2 3 = r 77) (h4 : v 2 4 = r 78) : fX2_dotsAtOnce v = nI (aoN r) := by
  obtain ⟨e, hl⟩ := ao_i hI
  obtain ⟨-, -, -, ⟨e3, a3, b3⟩, -⟩ := SI_n hI
  unfold fX2_dotsAtOnce aoN
  rw [show fX5_at 7 (v 2) 3 = r 77 from (at7 (v 2) 3 (by omega)).trans h3, show fX5_at 7 (v 2) 4 = r 78 from (at7 (v 2) 4 (by omega)).trans h4, e, if_pos (show (1 : Int32) ≤ r 77 by rw [e3]; exact nI_le (a := 1) a3 (by omega))]
  exact imx (a := 1) (by omega) (by omega)
theorem smN_cnt (X n : Nat) : smN n (fun d => (X.testBit d).toNat) = cntN X n := by
  induction n with
  | zero => rfl
  | succ n ih =>
    show smN n (fun d => (X.testBit d).toNat) + (X.testBit n).toNat = cntN X n + (X.testBit n).toNat
    rw [ih]
def ptN (r : Nat → Int32) (X : Nat) : Nat := (cntN X 24 + aoN r - 1) / aoN r
theorem ptN_le {r : Nat → Int32} (hI : SI r) (X : Nat) : ptN r X ≤ 24 := by
  have h := (aoN_le hI).1
  have hc := cntN_le X 24
  unfold ptN
  generalize aoN r = a at h ⊢
  rw [Nat.div_le_iff_le_mul_add_pred (by omega)]
  have : 24 ≤ a * 24 := Nat.le_mul_of_pos_left 24 (by omega)
  omega
theorem parts_i {r : Nat → Int32} (hI : SI r) (X : Nat) : ((nI (cntN X 24) + nI (aoN r)) - 1) / nI (aoN r) = nI (ptN r X) := by
  obtain ⟨h1, h2⟩ := aoN_le hI
  have hc := cntN_le X 24
  rw [nI_add, show nI (cntN X 24 + aoN r) - 1 = nI (cntN X 24 + aoN r - 1) from pk_sub (b := 1) (by omega), pk_div (by omega) (by omega) (by omega)]
  rfl
theorem pt_lt {r : Nat → Int32} (hI : SI r) {X d : Nat} (hd : d < 24) (hb : X.testBit d = true) : prt (aN r 79) (ptN r X) (aoN r) X d < ptN r X := by
  obtain ⟨h1, h2⟩ := aoN_le hI
  have hc : cntN X d < cntN X 24 := by
    have := cntN_mono X (show d + 1 ≤ 24 by omega)
    rw [cntN_t hb] at this
    omega
  have hp : 0 < ptN r X := Nat.div_pos (by omega) (by omega)
  unfold prt
  split
  · exact Nat.mod_lt _ hp
  · unfold ptN
    rw [Nat.div_lt_iff_lt_mul (by omega)]
    have h3 := Nat.div_add_mod (cntN X 24 + aoN r - 1) (aoN r)
    have h4 := Nat.mod_lt (cntN X 24 + aoN r - 1) (show aoN r > 0 by omega)
    rw [Nat.mul_comm]
    omega

